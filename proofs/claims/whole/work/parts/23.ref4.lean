/-! SpinKernelModel.choose(I)V -/
def f_X5_choose_226 (N : Nat) (k20 : ks_S → Int32 → Int32 → Option ks_S) (σ : ks_S)  : Option ks_S :=
  some σ
def f_X5_choose_106 (N : Nat) (k20 : ks_S → Int32 → Int32 → Option ks_S) (σ : ks_S) (x1 : Int32) (xs0 : Int32) (xs1 : Int32) : Option ks_S :=
  (if ks_in xs1 4 = true then (if ks_in x1 4 = true then (if ((((ks_up σ 40 0 0 xs1.toNatClampNeg xs0)) 39 0 0 x1.toNatClampNeg)) < 0 then f_X5_choose_226 N k20 ((ks_up σ 40 0 0 xs1.toNatClampNeg xs0)) else (if ks_in ((((ks_up σ 40 0 0 xs1.toNatClampNeg xs0)) 39 0 0 x1.toNatClampNeg)) 16 = true then (if ks_in ((((ks_up σ 40 0 0 xs1.toNatClampNeg xs0)) 39 0 0 x1.toNatClampNeg)) 16 = true then (if ((((ks_up σ 40 0 0 xs1.toNatClampNeg xs0)) 20 0 0 ((((ks_up σ 40 0 0 xs1.toNatClampNeg xs0)) 39 0 0 x1.toNatClampNeg)).toNatClampNeg)) ≤ ((((ks_up σ 40 0 0 xs1.toNatClampNeg xs0)) 30 0 0 ((((ks_up σ 40 0 0 xs1.toNatClampNeg xs0)) 39 0 0 x1.toNatClampNeg)).toNatClampNeg)) then f_X5_choose_226 N k20 ((ks_up σ 40 0 0 xs1.toNatClampNeg xs0)) else (if ks_in ((((ks_up σ 40 0 0 xs1.toNatClampNeg xs0)) 39 0 0 x1.toNatClampNeg)) 16 = true then (if ks_in ((((ks_up σ 40 0 0 xs1.toNatClampNeg xs0)) 39 0 0 x1.toNatClampNeg)) 16 = true then (if ks_in ((((6 * ((((ks_up σ 40 0 0 xs1.toNatClampNeg xs0)) 39 0 0 x1.toNatClampNeg)))) + ((((ks_up σ 40 0 0 xs1.toNatClampNeg xs0)) 30 0 0 ((((ks_up σ 40 0 0 xs1.toNatClampNeg xs0)) 39 0 0 x1.toNatClampNeg)).toNatClampNeg)))) 96 = true then (if ((((ks_up σ 40 0 0 xs1.toNatClampNeg xs0)) 29 0 0 ((((ks_up σ 40 0 0 xs1.toNatClampNeg xs0)) 39 0 0 x1.toNatClampNeg)).toNatClampNeg)) = ((((ks_up σ 40 0 0 xs1.toNatClampNeg xs0)) 21 0 0 ((((6 * ((((ks_up σ 40 0 0 xs1.toNatClampNeg xs0)) 39 0 0 x1.toNatClampNeg)))) + ((((ks_up σ 40 0 0 xs1.toNatClampNeg xs0)) 30 0 0 ((((ks_up σ 40 0 0 xs1.toNatClampNeg xs0)) 39 0 0 x1.toNatClampNeg)).toNatClampNeg)))).toNatClampNeg)) then ((f_X5_groupOf ((ks_up σ 40 0 0 xs1.toNatClampNeg xs0)) ((((ks_up σ 40 0 0 xs1.toNatClampNeg xs0)) 39 0 0 x1.toNatClampNeg))).bind fun (r19, s18) => (if ks_in r19 8 = true then (if ks_in ((((4 * r19)) + ((s18 44 0 0 r19.toNatClampNeg)))) 32 = true then (if ks_in r19 8 = true then (if ks_in r19 8 = true then (if ks_in x1 4 = true then (if ks_in ((((ks_up σ 40 0 0 xs1.toNatClampNeg xs0)) 39 0 0 x1.toNatClampNeg)) 16 = true then (if ks_in ((((ks_up σ 40 0 0 xs1.toNatClampNeg xs0)) 39 0 0 x1.toNatClampNeg)) 16 = true then (if ks_in ((((6 * ((((ks_up σ 40 0 0 xs1.toNatClampNeg xs0)) 39 0 0 x1.toNatClampNeg)))) + ((((ks_up (ks_up (ks_up (ks_up s18 43 0 0 ((((4 * r19)) + ((s18 44 0 0 r19.toNatClampNeg)))).toNatClampNeg x1) 44 0 0 r19.toNatClampNeg ((((((ks_up s18 43 0 0 ((((4 * r19)) + ((s18 44 0 0 r19.toNatClampNeg)))).toNatClampNeg x1)) 44 0 0 r19.toNatClampNeg)) + 1))) 40 0 0 x1.toNatClampNeg 2) 32 0 0 ((((ks_up σ 40 0 0 xs1.toNatClampNeg xs0)) 39 0 0 x1.toNatClampNeg)).toNatClampNeg 0)) 30 0 0 ((((ks_up σ 40 0 0 xs1.toNatClampNeg xs0)) 39 0 0 x1.toNatClampNeg)).toNatClampNeg)))) 96 = true then (if ks_in ((((ks_up σ 40 0 0 xs1.toNatClampNeg xs0)) 39 0 0 x1.toNatClampNeg)) 16 = true then f_X5_choose_226 N k20 ((ks_up (ks_up (ks_up (ks_up (ks_up s18 43 0 0 ((((4 * r19)) + ((s18 44 0 0 r19.toNatClampNeg)))).toNatClampNeg x1) 44 0 0 r19.toNatClampNeg ((((((ks_up s18 43 0 0 ((((4 * r19)) + ((s18 44 0 0 r19.toNatClampNeg)))).toNatClampNeg x1)) 44 0 0 r19.toNatClampNeg)) + 1))) 40 0 0 x1.toNatClampNeg 2) 32 0 0 ((((ks_up σ 40 0 0 xs1.toNatClampNeg xs0)) 39 0 0 x1.toNatClampNeg)).toNatClampNeg 0) 31 0 0 ((((ks_up σ 40 0 0 xs1.toNatClampNeg xs0)) 39 0 0 x1.toNatClampNeg)).toNatClampNeg ((((ks_up (ks_up (ks_up (ks_up s18 43 0 0 ((((4 * r19)) + ((s18 44 0 0 r19.toNatClampNeg)))).toNatClampNeg x1) 44 0 0 r19.toNatClampNeg ((((((ks_up s18 43 0 0 ((((4 * r19)) + ((s18 44 0 0 r19.toNatClampNeg)))).toNatClampNeg x1)) 44 0 0 r19.toNatClampNeg)) + 1))) 40 0 0 x1.toNatClampNeg 2) 32 0 0 ((((ks_up σ 40 0 0 xs1.toNatClampNeg xs0)) 39 0 0 x1.toNatClampNeg)).toNatClampNeg 0)) 33 0 0 ((((6 * ((((ks_up σ 40 0 0 xs1.toNatClampNeg xs0)) 39 0 0 x1.toNatClampNeg)))) + ((((ks_up (ks_up (ks_up (ks_up s18 43 0 0 ((((4 * r19)) + ((s18 44 0 0 r19.toNatClampNeg)))).toNatClampNeg x1) 44 0 0 r19.toNatClampNeg ((((((ks_up s18 43 0 0 ((((4 * r19)) + ((s18 44 0 0 r19.toNatClampNeg)))).toNatClampNeg x1)) 44 0 0 r19.toNatClampNeg)) + 1))) 40 0 0 x1.toNatClampNeg 2) 32 0 0 ((((ks_up σ 40 0 0 xs1.toNatClampNeg xs0)) 39 0 0 x1.toNatClampNeg)).toNatClampNeg 0)) 30 0 0 ((((ks_up σ 40 0 0 xs1.toNatClampNeg xs0)) 39 0 0 x1.toNatClampNeg)).toNatClampNeg)))).toNatClampNeg)))) else none) else none) else none) else none) else none) else none) else none) else none) else none)) else f_X5_choose_226 N k20 ((ks_up σ 40 0 0 xs1.toNatClampNeg xs0))) else none) else none) else none)) else none) else none)) else none) else none)
def f_X5_choose_20 (N : Nat) : Nat → ks_S → Int32 → Int32 → Option ks_S
  | 0, _, _, _ => none
  | n + 1, σ, x1, x2 => (if 16 ≤ x2 then (if ks_in x1 4 = true then (if 0 ≤ ((σ 39 0 0 x1.toNatClampNeg)) then f_X5_choose_106 N (f_X5_choose_20 N n) σ x1 1 x1 else f_X5_choose_106 N (f_X5_choose_20 N n) σ x1 0 x1) else none) else (if ks_in x2 16 = true then (if ((σ 26 0 0 x2.toNatClampNeg)) = 0 then f_X5_choose_20 N n σ x1 ((x2 + 1)) else (if ks_in x2 16 = true then (if ((σ 15 0 0 x2.toNatClampNeg)) = x1 then (if ks_in x1 4 = true then (if ((σ 39 0 0 x1.toNatClampNeg)) < 0 then (if ks_in x1 4 = true then f_X5_choose_20 N n ((ks_up σ 39 0 0 x1.toNatClampNeg x2)) x1 ((x2 + 1)) else none) else (if ks_in x2 16 = true then (if ks_in x1 4 = true then (if ks_in ((σ 39 0 0 x1.toNatClampNeg)) 16 = true then (if ((σ 16 0 0 x2.toNatClampNeg)) ≤ ((σ 16 0 0 ((σ 39 0 0 x1.toNatClampNeg)).toNatClampNeg)) then f_X5_choose_20 N n σ x1 ((x2 + 1)) else (if ks_in x1 4 = true then f_X5_choose_20 N n ((ks_up σ 39 0 0 x1.toNatClampNeg x2)) x1 ((x2 + 1)) else none)) else none) else none) else none)) else none) else f_X5_choose_20 N n σ x1 ((x2 + 1))) else none)) else none))
def f_X5_choose (N : Nat) (σ : ks_S) (x1 : Int32) : Option ks_S :=
  (if ks_in x1 4 = true then (if ((σ 40 0 0 x1.toNatClampNeg)) ≤ 1 then (if ks_in x1 4 = true then f_X5_choose_20 N N ((ks_up σ 39 0 0 x1.toNatClampNeg ((-1)))) x1 0 else none) else some σ) else none)
theorem in_X5_choose_5 : ∀ w ∈ wsX50, w ∈ wsX5_choose := by decide +kernel
set_option maxHeartbeats 4000000 in
set_option maxRecDepth 100000 in
theorem t_X5_choose_226 {p : Program} {l : Launch} {e : Env} {s : State} {m : MethodId} {args : Array Value} {below : List Frame} {meth : Method} {c : Code} {D : va_G} {cy : Nat → ClassId} {ad : ks_A} {En : Nat → Prop} {n0 : Nat → Prop} {σ0 : ks_S} {o : Int64} {N : Nat} {out : ks_S} (C : ks_M p s m args meth c D cy ad En (fun k => ks_g k = 1) n0 σ0 o wsX5_choose cX5_choose RX5 4 (none)) {k20 : ks_S → Int32 → Int32 → Option ks_S} (hk20 : ∀ (σ : ks_S) (x1 : Int32) (x2 : Int32), k20 σ x1 x2 = some out → ∀ {H : Heap} {locs : List Loc} {ls : Array Slot}, ks_W D cy ad En σ o H → va_S (ks_F n0) s.heap H locs → lv_has ls 4 [(0, .ref (ad 14 0 0)), (1, .int x1), (2, .int x2)] → W p l e (ks_Rm 1 0 0 21) s m args below meth c H locs 0 0 (MQ below (ks_Qv D cy ad En n0 o out) args s 0 0 (ks_F n0)) (F0 m 20 ls [])) {σ : ks_S}   (hf : f_X5_choose_226 N k20 σ  = some out) {H : Heap} {locs : List Loc} {ls : Array Slot} (hW : ks_W D cy ad En σ o H) (hS : va_S (ks_F n0) s.heap H locs) (hl : lv_has ls 4 []) : W p l e (ks_Rm 1 0 0 21) s m args below meth c H locs 0 0 (MQ below (ks_Qv D cy ad En n0 o out) args s 0 0 (ks_F n0)) (F0 m 226 ls []) := by
  obtain ⟨hx, hb, hml, hr, hown, hts, hlocks, hG, hU0, hE⟩ := id C
  have hK := hU0.2.2
  unfold f_X5_choose_226 at hf
  exact ks_vret C hf hW hS dX5_choose_226
set_option maxHeartbeats 4000000 in
set_option maxRecDepth 100000 in
theorem t_X5_choose_106 {p : Program} {l : Launch} {e : Env} {s : State} {m : MethodId} {args : Array Value} {below : List Frame} {meth : Method} {c : Code} {D : va_G} {cy : Nat → ClassId} {ad : ks_A} {En : Nat → Prop} {n0 : Nat → Prop} {σ0 : ks_S} {o : Int64} {N : Nat} {out : ks_S} (C : ks_M p s m args meth c D cy ad En (fun k => ks_g k = 1) n0 σ0 o wsX5_choose cX5_choose RX5 4 (none)) {k20 : ks_S → Int32 → Int32 → Option ks_S} (hk20 : ∀ (σ : ks_S) (x1 : Int32) (x2 : Int32), k20 σ x1 x2 = some out → ∀ {H : Heap} {locs : List Loc} {ls : Array Slot}, ks_W D cy ad En σ o H → va_S (ks_F n0) s.heap H locs → lv_has ls 4 [(0, .ref (ad 14 0 0)), (1, .int x1), (2, .int x2)] → W p l e (ks_Rm 1 0 0 21) s m args below meth c H locs 0 0 (MQ below (ks_Qv D cy ad En n0 o out) args s 0 0 (ks_F n0)) (F0 m 20 ls [])) {σ : ks_S} {x1 : Int32} {xs0 : Int32} {xs1 : Int32}  (hf : f_X5_choose_106 N k20 σ x1 xs0 xs1 = some out) {H : Heap} {locs : List Loc} {ls : Array Slot} (hW : ks_W D cy ad En σ o H) (hS : va_S (ks_F n0) s.heap H locs) (hl : lv_has ls 4 [(0, .ref (ad 14 0 0)), (1, .int x1)]) : W p l e (ks_Rm 1 0 0 21) s m args below meth c H locs 0 0 (MQ below (ks_Qv D cy ad En n0 o out) args s 0 0 (ks_F n0)) (F0 m 106 ls [.int xs0, .int xs1, .ref (ad 40 0 0)]) := by
  obtain ⟨hx, hb, hml, hr, hown, hts, hlocks, hG, hU0, hE⟩ := id C
  have hK := hU0.2.2
  unfold f_X5_choose_106 at hf
  obtain ⟨hi7, hf⟩ := ks_guard hf
  refine ks_iast hx hb hK hG hW hS (ks_v40 (i := 0) (j := 0) (hE 40 rfl)) (fun c => ks_c40 cy ad o 0 0 c) hi7 dX5_choose_106 (fun H locs hW hS => ?_)
  refine lv_aload_n hx hb dX5_choose_107 rfl (lv_at hl 0 rfl) ?_
  refine va_get (D := D) (ci := 5) (v := .ref (ad 39 0 0)) (C := RX5) (T := TX5) (N := 34) hx hb hts in_X5_choose_5 hown hK (ks_P1 hW (ks_v14 (i := 0) (j := 0) (hE 14 rfl)) (ks_c14 cy ad o 0 0 _)) 0 rfl rfl 28 (by decide) (hts (.fieldLink RX5 83 "SpinKernelModel" "at" "[I") (by decide +kernel)) (fun _ h => h) rfl dX5_choose_108 ?_
  refine lv_iload_n hx hb dX5_choose_111 rfl (lv_at hl 1 rfl) ?_
  obtain ⟨hi8, hf⟩ := ks_guard hf
  refine ks_iald hx hb hK hW (ks_v39 (i := 0) (j := 0) (hE 39 rfl)) (ks_c39 cy ad o 0 0 _) hi8 dX5_choose_112 ?_
  refine lv_istore_n (lv' := [(2, .int (((ks_up σ 40 0 0 xs1.toNatClampNeg xs0)) 39 0 0 x1.toNatClampNeg)), (0, .ref (ad 14 0 0)), (1, .int x1)]) hx hb dX5_choose_113 rfl hl (by decide) rfl (fun ls hl => ?_)
  refine lv_iload_n hx hb dX5_choose_114 rfl (lv_at hl 0 rfl) ?_
  refine lv_if_lt (tgt := 226) hx hb dX5_choose_115 (by decide) (fun c9 => ?_) (fun c9 => ?_)
  · rw [if_pos c9] at hf
    exact t_X5_choose_226 C hk20  hf hW hS (lv_sub hl [] rfl)
  · rw [if_neg c9] at hf
    refine lv_aload_n hx hb dX5_choose_118 rfl (lv_at hl 1 rfl) ?_
    refine va_get (D := D) (ci := 5) (v := .ref (ad 30 0 0)) (C := RX5) (T := TX5) (N := 34) hx hb hts in_X5_choose_5 hown hK (ks_P1 hW (ks_v14 (i := 0) (j := 0) (hE 14 rfl)) (ks_c14 cy ad o 0 0 _)) 0 rfl rfl 18 (by decide) (hts (.fieldLink RX5 56 "SpinKernelModel" "nexts" "[I") (by decide +kernel)) (fun _ h => h) rfl dX5_choose_119 ?_
    refine lv_iload_n hx hb dX5_choose_122 rfl (lv_at hl 0 rfl) ?_
    obtain ⟨hi10, hf⟩ := ks_guard hf
    refine ks_iald hx hb hK hW (ks_v30 (i := 0) (j := 0) (hE 30 rfl)) (ks_c30 cy ad o 0 0 _) hi10 dX5_choose_123 ?_
    refine lv_aload_n hx hb dX5_choose_124 rfl (lv_at hl 1 rfl) ?_
    refine va_get (D := D) (ci := 5) (v := .ref (ad 20 0 0)) (C := RX5) (T := TX5) (N := 34) hx hb hts in_X5_choose_5 hown hK (ks_P1 hW (ks_v14 (i := 0) (j := 0) (hE 14 rfl)) (ks_c14 cy ad o 0 0 _)) 0 rfl rfl 6 (by decide) (hts (.fieldLink RX5 25 "SpinKernelModel" "counts" "[I") (by decide +kernel)) (fun _ h => h) rfl dX5_choose_125 ?_
    refine lv_iload_n hx hb dX5_choose_128 rfl (lv_at hl 0 rfl) ?_
    obtain ⟨hi11, hf⟩ := ks_guard hf
    refine ks_iald hx hb hK hW (ks_v20 (i := 0) (j := 0) (hE 20 rfl)) (ks_c20 cy ad o 0 0 _) hi11 dX5_choose_129 ?_
    refine lv_icmp_ge (tgt := 226) hx hb dX5_choose_130 (by decide) (fun c12 => ?_) (fun c12 => ?_)
    · rw [if_pos c12] at hf
      exact t_X5_choose_226 C hk20  hf hW hS (lv_sub hl [] rfl)
    · rw [if_neg c12] at hf
      refine lv_aload_n hx hb dX5_choose_133 rfl (lv_at hl 1 rfl) ?_
      refine va_get (D := D) (ci := 5) (v := .ref (ad 29 0 0)) (C := RX5) (T := TX5) (N := 34) hx hb hts in_X5_choose_5 hown hK (ks_P1 hW (ks_v14 (i := 0) (j := 0) (hE 14 rfl)) (ks_c14 cy ad o 0 0 _)) 0 rfl rfl 17 (by decide) (hts (.fieldLink RX5 53 "SpinKernelModel" "done" "[I") (by decide +kernel)) (fun _ h => h) rfl dX5_choose_134 ?_
      refine lv_iload_n hx hb dX5_choose_137 rfl (lv_at hl 0 rfl) ?_
      obtain ⟨hi13, hf⟩ := ks_guard hf
      refine ks_iald hx hb hK hW (ks_v29 (i := 0) (j := 0) (hE 29 rfl)) (ks_c29 cy ad o 0 0 _) hi13 dX5_choose_138 ?_
      refine lv_aload_n hx hb dX5_choose_139 rfl (lv_at hl 1 rfl) ?_
      refine va_get (D := D) (ci := 5) (v := .ref (ad 21 0 0)) (C := RX5) (T := TX5) (N := 34) hx hb hts in_X5_choose_5 hown hK (ks_P1 hW (ks_v14 (i := 0) (j := 0) (hE 14 rfl)) (ks_c14 cy ad o 0 0 _)) 0 rfl rfl 7 (by decide) (hts (.fieldLink RX5 28 "SpinKernelModel" "afters" "[I") (by decide +kernel)) (fun _ h => h) rfl dX5_choose_140 ?_
      refine lv_bipush (v := 6) hx hb dX5_choose_143 (by decide) ?_
      refine lv_iload_n hx hb dX5_choose_145 rfl (lv_at hl 0 rfl) ?_
      refine lv_imul hx hb dX5_choose_146 ?_
      refine lv_aload_n hx hb dX5_choose_147 rfl (lv_at hl 1 rfl) ?_
      refine va_get (D := D) (ci := 5) (v := .ref (ad 30 0 0)) (C := RX5) (T := TX5) (N := 34) hx hb hts in_X5_choose_5 hown hK (ks_P1 hW (ks_v14 (i := 0) (j := 0) (hE 14 rfl)) (ks_c14 cy ad o 0 0 _)) 0 rfl rfl 18 (by decide) (hts (.fieldLink RX5 56 "SpinKernelModel" "nexts" "[I") (by decide +kernel)) (fun _ h => h) rfl dX5_choose_148 ?_
      refine lv_iload_n hx hb dX5_choose_151 rfl (lv_at hl 0 rfl) ?_
      obtain ⟨hi14, hf⟩ := ks_guard hf
      refine ks_iald hx hb hK hW (ks_v30 (i := 0) (j := 0) (hE 30 rfl)) (ks_c30 cy ad o 0 0 _) hi14 dX5_choose_152 ?_
      refine lv_iadd hx hb dX5_choose_153 ?_
      obtain ⟨hi15, hf⟩ := ks_guard hf
      refine ks_iald hx hb hK hW (ks_v21 (i := 0) (j := 0) (hE 21 rfl)) (ks_c21 cy ad o 0 0 _) hi15 dX5_choose_154 ?_
      refine lv_icmp_ne (tgt := 226) hx hb dX5_choose_155 (by decide) (fun c16 => ?_) (fun c16 => ?_)
      · rw [if_neg c16] at hf
        exact t_X5_choose_226 C hk20  hf hW hS (lv_sub hl [] rfl)
      · rw [if_pos c16] at hf
        refine lv_aload_n hx hb dX5_choose_158 rfl (lv_at hl 1 rfl) ?_
        refine lv_iload_n hx hb dX5_choose_159 rfl (lv_at hl 0 rfl) ?_
        obtain ⟨⟨r19, s18⟩, hc17, hf⟩ := ks_bind hf
        try dsimp only at hf
        refine ks_calli (va_runV (As := [.int (((ks_up σ 40 0 0 xs1.toNatClampNeg xs0)) 39 0 0 x1.toNatClampNeg)]) (rest := []) ⟨hx, hb, hml, hown, hts⟩ (m_X5_groupOf l D cy ad En n0 hG hE o hc17) (cwV 1 hts gX5_choose_X5_groupOf rfl rfl rfl (by decide +kernel) ⟨(Nat.le_of_ble_eq_true rfl), (Nat.le_of_ble_eq_true rfl)⟩) ⟨ks_U.blind, ks_recv hK hW (ks_v14 (i := 0) (j := 0) (hE 14 rfl)) (ks_c14 cy ad o 0 0 _) rfl, fun U hU hWm => ⟨rfl, hU0.now hS hW hWm.alike hU⟩⟩ rfl rfl hl.1 rfl (lv_room (Nat.le_of_ble_eq_true rfl)) dX5_choose_160 ⟨(Nat.le_of_ble_eq_true rfl), (Nat.le_of_ble_eq_true rfl)⟩) hS (fun H locs hW hS => ?_)
        refine lv_istore_n (lv' := [(3, .int r19), (2, .int (((ks_up σ 40 0 0 xs1.toNatClampNeg xs0)) 39 0 0 x1.toNatClampNeg)), (0, .ref (ad 14 0 0)), (1, .int x1)]) hx hb dX5_choose_163 rfl hl (by decide) rfl (fun ls hl => ?_)
        refine lv_aload_n hx hb dX5_choose_164 rfl (lv_at hl 2 rfl) ?_
        refine va_get (D := D) (ci := 5) (v := .ref (ad 43 0 0)) (C := RX5) (T := TX5) (N := 34) hx hb hts in_X5_choose_5 hown hK (ks_P1 hW (ks_v14 (i := 0) (j := 0) (hE 14 rfl)) (ks_c14 cy ad o 0 0 _)) 0 rfl rfl 32 (by decide) (hts (.fieldLink RX5 95 "SpinKernelModel" "rows" "[I") (by decide +kernel)) (fun _ h => h) rfl dX5_choose_165 ?_
        refine lv_iconst (v := 4) hx hb dX5_choose_168 (by decide) ?_
        refine lv_iload_n hx hb dX5_choose_169 rfl (lv_at hl 0 rfl) ?_
        refine lv_imul hx hb dX5_choose_170 ?_
        refine lv_aload_n hx hb dX5_choose_171 rfl (lv_at hl 2 rfl) ?_
        refine va_get (D := D) (ci := 5) (v := .ref (ad 44 0 0)) (C := RX5) (T := TX5) (N := 34) hx hb hts in_X5_choose_5 hown hK (ks_P1 hW (ks_v14 (i := 0) (j := 0) (hE 14 rfl)) (ks_c14 cy ad o 0 0 _)) 0 rfl rfl 33 (by decide) (hts (.fieldLink RX5 98 "SpinKernelModel" "many" "[I") (by decide +kernel)) (fun _ h => h) rfl dX5_choose_172 ?_
        refine lv_iload_n hx hb dX5_choose_175 rfl (lv_at hl 0 rfl) ?_
        obtain ⟨hi20, hf⟩ := ks_guard hf
        refine ks_iald hx hb hK hW (ks_v44 (i := 0) (j := 0) (hE 44 rfl)) (ks_c44 cy ad o 0 0 _) hi20 dX5_choose_176 ?_
        refine lv_iadd hx hb dX5_choose_177 ?_
        refine lv_iload_n hx hb dX5_choose_178 rfl (lv_at hl 3 rfl) ?_
        obtain ⟨hi21, hf⟩ := ks_guard hf
        refine ks_iast hx hb hK hG hW hS (ks_v43 (i := 0) (j := 0) (hE 43 rfl)) (fun c => ks_c43 cy ad o 0 0 c) hi21 dX5_choose_179 (fun H locs hW hS => ?_)
        refine lv_aload_n hx hb dX5_choose_180 rfl (lv_at hl 2 rfl) ?_
        refine va_get (D := D) (ci := 5) (v := .ref (ad 44 0 0)) (C := RX5) (T := TX5) (N := 34) hx hb hts in_X5_choose_5 hown hK (ks_P1 hW (ks_v14 (i := 0) (j := 0) (hE 14 rfl)) (ks_c14 cy ad o 0 0 _)) 0 rfl rfl 33 (by decide) (hts (.fieldLink RX5 98 "SpinKernelModel" "many" "[I") (by decide +kernel)) (fun _ h => h) rfl dX5_choose_181 ?_
        refine lv_iload_n hx hb dX5_choose_184 rfl (lv_at hl 0 rfl) ?_
        refine lv_dup2_11 hx hb dX5_choose_185 rfl rfl ?_
        obtain ⟨hi22, hf⟩ := ks_guard hf
        refine ks_iald hx hb hK hW (ks_v44 (i := 0) (j := 0) (hE 44 rfl)) (ks_c44 cy ad o 0 0 _) hi22 dX5_choose_186 ?_
        refine lv_iconst (v := 1) hx hb dX5_choose_187 (by decide) ?_
        refine lv_iadd hx hb dX5_choose_188 ?_
        obtain ⟨hi23, hf⟩ := ks_guard hf
        refine ks_iast hx hb hK hG hW hS (ks_v44 (i := 0) (j := 0) (hE 44 rfl)) (fun c => ks_c44 cy ad o 0 0 c) hi23 dX5_choose_189 (fun H locs hW hS => ?_)
        refine lv_aload_n hx hb dX5_choose_190 rfl (lv_at hl 2 rfl) ?_
        refine va_get (D := D) (ci := 5) (v := .ref (ad 40 0 0)) (C := RX5) (T := TX5) (N := 34) hx hb hts in_X5_choose_5 hown hK (ks_P1 hW (ks_v14 (i := 0) (j := 0) (hE 14 rfl)) (ks_c14 cy ad o 0 0 _)) 0 rfl rfl 29 (by decide) (hts (.fieldLink RX5 86 "SpinKernelModel" "state" "[I") (by decide +kernel)) (fun _ h => h) rfl dX5_choose_191 ?_
        refine lv_iload_n hx hb dX5_choose_194 rfl (lv_at hl 3 rfl) ?_
        refine lv_iconst (v := 2) hx hb dX5_choose_195 (by decide) ?_
        obtain ⟨hi24, hf⟩ := ks_guard hf
        refine ks_iast hx hb hK hG hW hS (ks_v40 (i := 0) (j := 0) (hE 40 rfl)) (fun c => ks_c40 cy ad o 0 0 c) hi24 dX5_choose_196 (fun H locs hW hS => ?_)
        refine lv_aload_n hx hb dX5_choose_197 rfl (lv_at hl 2 rfl) ?_
        refine va_get (D := D) (ci := 5) (v := .ref (ad 32 0 0)) (C := RX5) (T := TX5) (N := 34) hx hb hts in_X5_choose_5 hown hK (ks_P1 hW (ks_v14 (i := 0) (j := 0) (hE 14 rfl)) (ks_c14 cy ad o 0 0 _)) 0 rfl rfl 20 (by decide) (hts (.fieldLink RX5 62 "SpinKernelModel" "spinning" "[I") (by decide +kernel)) (fun _ h => h) rfl dX5_choose_198 ?_
        refine lv_iload_n hx hb dX5_choose_201 rfl (lv_at hl 1 rfl) ?_
        refine lv_iconst (v := 0) hx hb dX5_choose_202 (by decide) ?_
        obtain ⟨hi25, hf⟩ := ks_guard hf
        refine ks_iast hx hb hK hG hW hS (ks_v32 (i := 0) (j := 0) (hE 32 rfl)) (fun c => ks_c32 cy ad o 0 0 c) hi25 dX5_choose_203 (fun H locs hW hS => ?_)
        refine lv_aload_n hx hb dX5_choose_204 rfl (lv_at hl 2 rfl) ?_
        refine va_get (D := D) (ci := 5) (v := .ref (ad 31 0 0)) (C := RX5) (T := TX5) (N := 34) hx hb hts in_X5_choose_5 hown hK (ks_P1 hW (ks_v14 (i := 0) (j := 0) (hE 14 rfl)) (ks_c14 cy ad o 0 0 _)) 0 rfl rfl 19 (by decide) (hts (.fieldLink RX5 59 "SpinKernelModel" "left" "[I") (by decide +kernel)) (fun _ h => h) rfl dX5_choose_205 ?_
        refine lv_iload_n hx hb dX5_choose_208 rfl (lv_at hl 1 rfl) ?_
        refine lv_aload_n hx hb dX5_choose_209 rfl (lv_at hl 2 rfl) ?_
        refine va_get (D := D) (ci := 5) (v := .ref (ad 33 0 0)) (C := RX5) (T := TX5) (N := 34) hx hb hts in_X5_choose_5 hown hK (ks_P1 hW (ks_v14 (i := 0) (j := 0) (hE 14 rfl)) (ks_c14 cy ad o 0 0 _)) 0 rfl rfl 21 (by decide) (hts (.fieldLink RX5 65 "SpinKernelModel" "mine" "[I") (by decide +kernel)) (fun _ h => h) rfl dX5_choose_210 ?_
        refine lv_bipush (v := 6) hx hb dX5_choose_213 (by decide) ?_
        refine lv_iload_n hx hb dX5_choose_215 rfl (lv_at hl 1 rfl) ?_
        refine lv_imul hx hb dX5_choose_216 ?_
        refine lv_aload_n hx hb dX5_choose_217 rfl (lv_at hl 2 rfl) ?_
        refine va_get (D := D) (ci := 5) (v := .ref (ad 30 0 0)) (C := RX5) (T := TX5) (N := 34) hx hb hts in_X5_choose_5 hown hK (ks_P1 hW (ks_v14 (i := 0) (j := 0) (hE 14 rfl)) (ks_c14 cy ad o 0 0 _)) 0 rfl rfl 18 (by decide) (hts (.fieldLink RX5 56 "SpinKernelModel" "nexts" "[I") (by decide +kernel)) (fun _ h => h) rfl dX5_choose_218 ?_
        refine lv_iload_n hx hb dX5_choose_221 rfl (lv_at hl 1 rfl) ?_
        obtain ⟨hi26, hf⟩ := ks_guard hf
        refine ks_iald hx hb hK hW (ks_v30 (i := 0) (j := 0) (hE 30 rfl)) (ks_c30 cy ad o 0 0 _) hi26 dX5_choose_222 ?_
        refine lv_iadd hx hb dX5_choose_223 ?_
        obtain ⟨hi27, hf⟩ := ks_guard hf
        refine ks_iald hx hb hK hW (ks_v33 (i := 0) (j := 0) (hE 33 rfl)) (ks_c33 cy ad o 0 0 _) hi27 dX5_choose_224 ?_
        obtain ⟨hi28, hf⟩ := ks_guard hf
        refine ks_iast hx hb hK hG hW hS (ks_v31 (i := 0) (j := 0) (hE 31 rfl)) (fun c => ks_c31 cy ad o 0 0 c) hi28 dX5_choose_225 (fun H locs hW hS => ?_)
        exact t_X5_choose_226 C hk20  hf hW hS (lv_sub hl [] rfl)
set_option maxHeartbeats 4000000 in
set_option maxRecDepth 100000 in
theorem t_X5_choose_20 {p : Program} {l : Launch} {e : Env} {s : State} {m : MethodId} {args : Array Value} {below : List Frame} {meth : Method} {c : Code} {D : va_G} {cy : Nat → ClassId} {ad : ks_A} {En : Nat → Prop} {n0 : Nat → Prop} {σ0 : ks_S} {o : Int64} {N : Nat} {out : ks_S} (C : ks_M p s m args meth c D cy ad En (fun k => ks_g k = 1) n0 σ0 o wsX5_choose cX5_choose RX5 4 (none)) : ∀ (n : Nat) (σ : ks_S) (x1 : Int32) (x2 : Int32), f_X5_choose_20 N n σ x1 x2 = some out → ∀ {H : Heap} {locs : List Loc} {ls : Array Slot}, ks_W D cy ad En σ o H → va_S (ks_F n0) s.heap H locs → lv_has ls 4 [(0, .ref (ad 14 0 0)), (1, .int x1), (2, .int x2)] → W p l e (ks_Rm 1 0 0 21) s m args below meth c H locs 0 0 (MQ below (ks_Qv D cy ad En n0 o out) args s 0 0 (ks_F n0)) (F0 m 20 ls []) := by
  obtain ⟨hx, hb, hml, hr, hown, hts, hlocks, hG, hU0, hE⟩ := id C
  have hK := hU0.2.2
  intro n
  induction n with
  | zero => intro σ x1 x2; intro  hf; exact absurd hf (by simp [f_X5_choose_20])
  | succ n hk20 =>
    intro σ x1 x2  hf H locs ls hW hS hl
    rw [f_X5_choose_20] at hf
    refine lv_iload_n hx hb dX5_choose_20 rfl (lv_at hl 2 rfl) ?_
    refine lv_bipush (v := 16) hx hb dX5_choose_21 (by decide) ?_
    refine lv_icmp_ge (tgt := 87) hx hb dX5_choose_23 (by decide) (fun c4 => ?_) (fun c4 => ?_)
    · rw [if_pos c4] at hf
      refine lv_aload_n hx hb dX5_choose_87 rfl (lv_at hl 0 rfl) ?_
      refine va_get (D := D) (ci := 5) (v := .ref (ad 40 0 0)) (C := RX5) (T := TX5) (N := 34) hx hb hts in_X5_choose_5 hown hK (ks_P1 hW (ks_v14 (i := 0) (j := 0) (hE 14 rfl)) (ks_c14 cy ad o 0 0 _)) 0 rfl rfl 29 (by decide) (hts (.fieldLink RX5 86 "SpinKernelModel" "state" "[I") (by decide +kernel)) (fun _ h => h) rfl dX5_choose_88 ?_
      refine lv_iload_n hx hb dX5_choose_91 rfl (lv_at hl 1 rfl) ?_
      refine lv_aload_n hx hb dX5_choose_92 rfl (lv_at hl 0 rfl) ?_
      refine va_get (D := D) (ci := 5) (v := .ref (ad 39 0 0)) (C := RX5) (T := TX5) (N := 34) hx hb hts in_X5_choose_5 hown hK (ks_P1 hW (ks_v14 (i := 0) (j := 0) (hE 14 rfl)) (ks_c14 cy ad o 0 0 _)) 0 rfl rfl 28 (by decide) (hts (.fieldLink RX5 83 "SpinKernelModel" "at" "[I") (by decide +kernel)) (fun _ h => h) rfl dX5_choose_93 ?_
      refine lv_iload_n hx hb dX5_choose_96 rfl (lv_at hl 1 rfl) ?_
      obtain ⟨hi5, hf⟩ := ks_guard hf
      refine ks_iald hx hb hK hW (ks_v39 (i := 0) (j := 0) (hE 39 rfl)) (ks_c39 cy ad o 0 0 _) hi5 dX5_choose_97 ?_
      refine lv_if_ge (tgt := 105) hx hb dX5_choose_98 (by decide) (fun c6 => ?_) (fun c6 => ?_)
      · rw [if_pos c6] at hf
        refine lv_iconst (v := 1) hx hb dX5_choose_105 (by decide) ?_
        exact t_X5_choose_106 C hk20  hf hW hS (lv_sub hl [0, 1] rfl)
      · rw [if_neg c6] at hf
        refine lv_iconst (v := 0) hx hb dX5_choose_101 (by decide) ?_
        refine lv_goto (tgt := 106) hx hb dX5_choose_102 (by decide) ?_
        exact t_X5_choose_106 C hk20  hf hW hS (lv_sub hl [0, 1] rfl)
    · rw [if_neg c4] at hf
      refine lv_aload_n hx hb dX5_choose_26 rfl (lv_at hl 0 rfl) ?_
      refine va_get (D := D) (ci := 5) (v := .ref (ad 26 0 0)) (C := RX5) (T := TX5) (N := 34) hx hb hts in_X5_choose_5 hown hK (ks_P1 hW (ks_v14 (i := 0) (j := 0) (hE 14 rfl)) (ks_c14 cy ad o 0 0 _)) 0 rfl rfl 14 (by decide) (hts (.fieldLink RX5 43 "SpinKernelModel" "open" "[Z") (by decide +kernel)) (fun _ h => h) rfl dX5_choose_27 ?_
      refine lv_iload_n hx hb dX5_choose_30 rfl (lv_at hl 2 rfl) ?_
      obtain ⟨hi29, hf⟩ := ks_guard hf
      refine ks_zald hx hb hK hW (ks_v26 (i := 0) (j := 0) (hE 26 rfl)) (ks_c26 cy ad o 0 0 _) hi29 dX5_choose_31 ?_
      refine lv_if_eq (tgt := 81) hx hb dX5_choose_32 (by decide) (fun c30 => ?_) (fun c30 => ?_)
      · rw [if_pos c30] at hf
        refine lv_iinc (v := (x2 + 1)) (lv' := [(2, .int (x2 + 1)), (0, .ref (ad 14 0 0)), (1, .int x1)]) hx hb dX5_choose_81 hl (k := 2) rfl rfl (by decide) rfl (fun ls hl => ?_)
        refine lv_goto (tgt := 20) hx hb dX5_choose_84 (by decide) ?_
        exact hk20 _ _ _ hf hW hS (lv_sub hl [1, 2, 0] rfl)
      · rw [if_neg c30] at hf
        refine lv_aload_n hx hb dX5_choose_35 rfl (lv_at hl 0 rfl) ?_
        refine va_get (D := D) (ci := 5) (v := .ref (ad 15 0 0)) (C := RX5) (T := TX5) (N := 34) hx hb hts in_X5_choose_5 hown hK (ks_P1 hW (ks_v14 (i := 0) (j := 0) (hE 14 rfl)) (ks_c14 cy ad o 0 0 _)) 0 rfl rfl 1 (by decide) (hts (.fieldLink RX5 7 "SpinKernelModel" "cores" "[I") (by decide +kernel)) (fun _ h => h) rfl dX5_choose_36 ?_
        refine lv_iload_n hx hb dX5_choose_39 rfl (lv_at hl 2 rfl) ?_
        obtain ⟨hi31, hf⟩ := ks_guard hf
        refine ks_iald hx hb hK hW (ks_v15 (i := 0) (j := 0) (hE 15 rfl)) (ks_c15 cy ad o 0 0 _) hi31 dX5_choose_40 ?_
        refine lv_iload_n hx hb dX5_choose_41 rfl (lv_at hl 1 rfl) ?_
        refine lv_icmp_ne (tgt := 81) hx hb dX5_choose_42 (by decide) (fun c32 => ?_) (fun c32 => ?_)
        · rw [if_neg c32] at hf
          refine lv_iinc (v := (x2 + 1)) (lv' := [(2, .int (x2 + 1)), (0, .ref (ad 14 0 0)), (1, .int x1)]) hx hb dX5_choose_81 hl (k := 2) rfl rfl (by decide) rfl (fun ls hl => ?_)
          refine lv_goto (tgt := 20) hx hb dX5_choose_84 (by decide) ?_
          exact hk20 _ _ _ hf hW hS (lv_sub hl [1, 2, 0] rfl)
        · rw [if_pos c32] at hf
          refine lv_aload_n hx hb dX5_choose_45 rfl (lv_at hl 0 rfl) ?_
          refine va_get (D := D) (ci := 5) (v := .ref (ad 39 0 0)) (C := RX5) (T := TX5) (N := 34) hx hb hts in_X5_choose_5 hown hK (ks_P1 hW (ks_v14 (i := 0) (j := 0) (hE 14 rfl)) (ks_c14 cy ad o 0 0 _)) 0 rfl rfl 28 (by decide) (hts (.fieldLink RX5 83 "SpinKernelModel" "at" "[I") (by decide +kernel)) (fun _ h => h) rfl dX5_choose_46 ?_
          refine lv_iload_n hx hb dX5_choose_49 rfl (lv_at hl 1 rfl) ?_
          obtain ⟨hi33, hf⟩ := ks_guard hf
          refine ks_iald hx hb hK hW (ks_v39 (i := 0) (j := 0) (hE 39 rfl)) (ks_c39 cy ad o 0 0 _) hi33 dX5_choose_50 ?_
          refine lv_if_lt (tgt := 74) hx hb dX5_choose_51 (by decide) (fun c34 => ?_) (fun c34 => ?_)
          · rw [if_pos c34] at hf
            refine lv_aload_n hx hb dX5_choose_74 rfl (lv_at hl 0 rfl) ?_
            refine va_get (D := D) (ci := 5) (v := .ref (ad 39 0 0)) (C := RX5) (T := TX5) (N := 34) hx hb hts in_X5_choose_5 hown hK (ks_P1 hW (ks_v14 (i := 0) (j := 0) (hE 14 rfl)) (ks_c14 cy ad o 0 0 _)) 0 rfl rfl 28 (by decide) (hts (.fieldLink RX5 83 "SpinKernelModel" "at" "[I") (by decide +kernel)) (fun _ h => h) rfl dX5_choose_75 ?_
            refine lv_iload_n hx hb dX5_choose_78 rfl (lv_at hl 1 rfl) ?_
            refine lv_iload_n hx hb dX5_choose_79 rfl (lv_at hl 2 rfl) ?_
            obtain ⟨hi35, hf⟩ := ks_guard hf
            refine ks_iast hx hb hK hG hW hS (ks_v39 (i := 0) (j := 0) (hE 39 rfl)) (fun c => ks_c39 cy ad o 0 0 c) hi35 dX5_choose_80 (fun H locs hW hS => ?_)
            refine lv_iinc (v := (x2 + 1)) (lv' := [(2, .int (x2 + 1)), (0, .ref (ad 14 0 0)), (1, .int x1)]) hx hb dX5_choose_81 hl (k := 2) rfl rfl (by decide) rfl (fun ls hl => ?_)
            refine lv_goto (tgt := 20) hx hb dX5_choose_84 (by decide) ?_
            exact hk20 _ _ _ hf hW hS (lv_sub hl [1, 2, 0] rfl)
          · rw [if_neg c34] at hf
            refine lv_aload_n hx hb dX5_choose_54 rfl (lv_at hl 0 rfl) ?_
            refine va_get (D := D) (ci := 5) (v := .ref (ad 16 0 0)) (C := RX5) (T := TX5) (N := 34) hx hb hts in_X5_choose_5 hown hK (ks_P1 hW (ks_v14 (i := 0) (j := 0) (hE 14 rfl)) (ks_c14 cy ad o 0 0 _)) 0 rfl rfl 2 (by decide) (hts (.fieldLink RX5 13 "SpinKernelModel" "priorities" "[I") (by decide +kernel)) (fun _ h => h) rfl dX5_choose_55 ?_
            refine lv_iload_n hx hb dX5_choose_58 rfl (lv_at hl 2 rfl) ?_
            obtain ⟨hi36, hf⟩ := ks_guard hf
            refine ks_iald hx hb hK hW (ks_v16 (i := 0) (j := 0) (hE 16 rfl)) (ks_c16 cy ad o 0 0 _) hi36 dX5_choose_59 ?_
            refine lv_aload_n hx hb dX5_choose_60 rfl (lv_at hl 0 rfl) ?_
            refine va_get (D := D) (ci := 5) (v := .ref (ad 16 0 0)) (C := RX5) (T := TX5) (N := 34) hx hb hts in_X5_choose_5 hown hK (ks_P1 hW (ks_v14 (i := 0) (j := 0) (hE 14 rfl)) (ks_c14 cy ad o 0 0 _)) 0 rfl rfl 2 (by decide) (hts (.fieldLink RX5 13 "SpinKernelModel" "priorities" "[I") (by decide +kernel)) (fun _ h => h) rfl dX5_choose_61 ?_
            refine lv_aload_n hx hb dX5_choose_64 rfl (lv_at hl 0 rfl) ?_
            refine va_get (D := D) (ci := 5) (v := .ref (ad 39 0 0)) (C := RX5) (T := TX5) (N := 34) hx hb hts in_X5_choose_5 hown hK (ks_P1 hW (ks_v14 (i := 0) (j := 0) (hE 14 rfl)) (ks_c14 cy ad o 0 0 _)) 0 rfl rfl 28 (by decide) (hts (.fieldLink RX5 83 "SpinKernelModel" "at" "[I") (by decide +kernel)) (fun _ h => h) rfl dX5_choose_65 ?_
            refine lv_iload_n hx hb dX5_choose_68 rfl (lv_at hl 1 rfl) ?_
            obtain ⟨hi37, hf⟩ := ks_guard hf
            refine ks_iald hx hb hK hW (ks_v39 (i := 0) (j := 0) (hE 39 rfl)) (ks_c39 cy ad o 0 0 _) hi37 dX5_choose_69 ?_
            obtain ⟨hi38, hf⟩ := ks_guard hf
            refine ks_iald hx hb hK hW (ks_v16 (i := 0) (j := 0) (hE 16 rfl)) (ks_c16 cy ad o 0 0 _) hi38 dX5_choose_70 ?_
            refine lv_icmp_le (tgt := 81) hx hb dX5_choose_71 (by decide) (fun c39 => ?_) (fun c39 => ?_)
            · rw [if_pos c39] at hf
              refine lv_iinc (v := (x2 + 1)) (lv' := [(2, .int (x2 + 1)), (0, .ref (ad 14 0 0)), (1, .int x1)]) hx hb dX5_choose_81 hl (k := 2) rfl rfl (by decide) rfl (fun ls hl => ?_)
              refine lv_goto (tgt := 20) hx hb dX5_choose_84 (by decide) ?_
              exact hk20 _ _ _ hf hW hS (lv_sub hl [1, 2, 0] rfl)
            · rw [if_neg c39] at hf
              refine lv_aload_n hx hb dX5_choose_74 rfl (lv_at hl 0 rfl) ?_
              refine va_get (D := D) (ci := 5) (v := .ref (ad 39 0 0)) (C := RX5) (T := TX5) (N := 34) hx hb hts in_X5_choose_5 hown hK (ks_P1 hW (ks_v14 (i := 0) (j := 0) (hE 14 rfl)) (ks_c14 cy ad o 0 0 _)) 0 rfl rfl 28 (by decide) (hts (.fieldLink RX5 83 "SpinKernelModel" "at" "[I") (by decide +kernel)) (fun _ h => h) rfl dX5_choose_75 ?_
              refine lv_iload_n hx hb dX5_choose_78 rfl (lv_at hl 1 rfl) ?_
              refine lv_iload_n hx hb dX5_choose_79 rfl (lv_at hl 2 rfl) ?_
              obtain ⟨hi40, hf⟩ := ks_guard hf
              refine ks_iast hx hb hK hG hW hS (ks_v39 (i := 0) (j := 0) (hE 39 rfl)) (fun c => ks_c39 cy ad o 0 0 c) hi40 dX5_choose_80 (fun H locs hW hS => ?_)
              refine lv_iinc (v := (x2 + 1)) (lv' := [(2, .int (x2 + 1)), (0, .ref (ad 14 0 0)), (1, .int x1)]) hx hb dX5_choose_81 hl (k := 2) rfl rfl (by decide) rfl (fun ls hl => ?_)
              refine lv_goto (tgt := 20) hx hb dX5_choose_84 (by decide) ?_
              exact hk20 _ _ _ hf hW hS (lv_sub hl [1, 2, 0] rfl)
set_option maxHeartbeats 4000000 in
set_option maxRecDepth 100000 in
theorem t_X5_choose {p : Program} {l : Launch} {e : Env} {s : State} {m : MethodId} {args : Array Value} {below : List Frame} {meth : Method} {c : Code} {D : va_G} {cy : Nat → ClassId} {ad : ks_A} {En : Nat → Prop} {n0 : Nat → Prop} {σ0 : ks_S} {o : Int64} {N : Nat} {out : ks_S} (C : ks_M p s m args meth c D cy ad En (fun k => ks_g k = 1) n0 σ0 o wsX5_choose cX5_choose RX5 4 (none)) {σ : ks_S} {x1 : Int32}  (hf : f_X5_choose N σ x1 = some out) {H : Heap} {locs : List Loc} {ls : Array Slot} (hW : ks_W D cy ad En σ o H) (hS : va_S (ks_F n0) s.heap H locs) (hl : lv_has ls 4 [(0, .ref (ad 14 0 0)), (1, .int x1)]) : W p l e (ks_Rm 1 0 0 21) s m args below meth c H locs 0 0 (MQ below (ks_Qv D cy ad En n0 o out) args s 0 0 (ks_F n0)) (F0 m 0 ls []) := by
  obtain ⟨hx, hb, hml, hr, hown, hts, hlocks, hG, hU0, hE⟩ := id C
  have hK := hU0.2.2
  unfold f_X5_choose at hf
  refine lv_aload_n hx hb dX5_choose_0 rfl (lv_at hl 0 rfl) ?_
  refine va_get (D := D) (ci := 5) (v := .ref (ad 40 0 0)) (C := RX5) (T := TX5) (N := 34) hx hb hts in_X5_choose_5 hown hK (ks_P1 hW (ks_v14 (i := 0) (j := 0) (hE 14 rfl)) (ks_c14 cy ad o 0 0 _)) 0 rfl rfl 29 (by decide) (hts (.fieldLink RX5 86 "SpinKernelModel" "state" "[I") (by decide +kernel)) (fun _ h => h) rfl dX5_choose_1 ?_
  refine lv_iload_n hx hb dX5_choose_4 rfl (lv_at hl 1 rfl) ?_
  obtain ⟨hi1, hf⟩ := ks_guard hf
  refine ks_iald hx hb hK hW (ks_v40 (i := 0) (j := 0) (hE 40 rfl)) (ks_c40 cy ad o 0 0 _) hi1 dX5_choose_5 ?_
  refine lv_iconst (v := 1) hx hb dX5_choose_6 (by decide) ?_
  refine lv_icmp_le (tgt := 11) hx hb dX5_choose_7 (by decide) (fun c2 => ?_) (fun c2 => ?_)
  · rw [if_pos c2] at hf
    refine lv_aload_n hx hb dX5_choose_11 rfl (lv_at hl 0 rfl) ?_
    refine va_get (D := D) (ci := 5) (v := .ref (ad 39 0 0)) (C := RX5) (T := TX5) (N := 34) hx hb hts in_X5_choose_5 hown hK (ks_P1 hW (ks_v14 (i := 0) (j := 0) (hE 14 rfl)) (ks_c14 cy ad o 0 0 _)) 0 rfl rfl 28 (by decide) (hts (.fieldLink RX5 83 "SpinKernelModel" "at" "[I") (by decide +kernel)) (fun _ h => h) rfl dX5_choose_12 ?_
    refine lv_iload_n hx hb dX5_choose_15 rfl (lv_at hl 1 rfl) ?_
    refine lv_iconst (v := (-1)) hx hb dX5_choose_16 (by decide) ?_
    obtain ⟨hi3, hf⟩ := ks_guard hf
    refine ks_iast hx hb hK hG hW hS (ks_v39 (i := 0) (j := 0) (hE 39 rfl)) (fun c => ks_c39 cy ad o 0 0 c) hi3 dX5_choose_17 (fun H locs hW hS => ?_)
    refine lv_iconst (v := 0) hx hb dX5_choose_18 (by decide) ?_
    refine lv_istore_n (lv' := [(2, .int 0), (0, .ref (ad 14 0 0)), (1, .int x1)]) hx hb dX5_choose_19 rfl hl (by decide) rfl (fun ls hl => ?_)
    exact t_X5_choose_20 C _ _ _ _  hf hW hS (lv_sub hl [1, 2, 0] rfl)
  · rw [if_neg c2] at hf
    exact ks_vret C hf hW hS dX5_choose_10
set_option maxHeartbeats 4000000 in
set_option maxRecDepth 100000 in
theorem m_X5_choose (l : Launch) (D : va_G) (cy : Nat → ClassId) (ad : ks_A) (En : Nat → Prop) (n0 : Nat → Prop) (hG : ks_G ad En n0) (hE : ∀ k, ks_g k = 1 → En k) (o : Int64) {N : Nat} {σ : ks_S} {x1 : Int32}  {out : ks_S} (hf : f_X5_choose N σ x1 = some out) : Met l yX5_choose wsX5_choose (ks_Rm 1 0 0 21) (va_Pc [.ref (ad 14 0 0), .int x1] (ks_U D cy ad En n0 σ o)) (ks_Qv D cy ad En n0 o out) 0 0 (ks_F n0) := by
  refine Met.ofW (cc := cX5_choose) (maxL := 4) (ret := none) (by decide) rfl ?_
  intro p e s m args below meth c s₁ B hml hv
  obtain ⟨rfl, hU⟩ := hv
  have hl := lv_entry ([.ref (ad 14 0 0), .int x1]) (n := 4) (Nat.le_of_ble_eq_true rfl)
  rw [lg_entry_eq]
  generalize (lg_sl ([.ref (ad 14 0 0), .int x1]) ++ List.replicate (4 - (lg_sl ([.ref (ad 14 0 0), .int x1])).length) Slot.unset).toArray = ls at hl ⊢
  exact t_X5_choose ⟨B.exec, B.bytes, hml, B.returns, findClass_of_methodNamed B.named, atoms_spec (ws := wsX5_choose) B.pre, B.notSynchronized, hG, hU, hE⟩  hf hU.2.1 va_S.rf hl

/-! SpinKernelModel.leave(II)V -/
def f_X5_leave_2 (N : Nat) : Nat → ks_S → Int32 → Int32 → Int32 → Option ks_S
  | 0, _, _, _, _ => none
  | n + 1, σ, x1, x2, x3 => (if ks_in x2 8 = true then (if ((σ 44 0 0 x2.toNatClampNeg)) ≤ x3 then (if ks_in x2 8 = true then (if ks_in x2 8 = true then (if ks_in x1 4 = true then some ((ks_up (ks_up σ 44 0 0 x2.toNatClampNeg ((((σ 44 0 0 x2.toNatClampNeg)) - 1))) 40 0 0 x1.toNatClampNeg 1)) else none) else none) else none) else (if ks_in ((((4 * x2)) + x3)) 32 = true then (if ks_in ((((((4 * x2)) + x3)) - 1)) 32 = true then f_X5_leave_2 N n ((ks_up σ 43 0 0 ((((((4 * x2)) + x3)) - 1)).toNatClampNeg ((σ 43 0 0 ((((4 * x2)) + x3)).toNatClampNeg)))) x1 x2 ((x3 + 1)) else none) else none)) else none)
def f_X5_leave (N : Nat) (σ : ks_S) (x1 : Int32) (x2 : Int32) : Option ks_S :=
  f_X5_leave_2 N N σ x1 x2 1
theorem in_X5_leave_5 : ∀ w ∈ wsX50, w ∈ wsX5_leave := by decide +kernel
set_option maxHeartbeats 4000000 in
set_option maxRecDepth 100000 in
theorem t_X5_leave_2 {p : Program} {l : Launch} {e : Env} {s : State} {m : MethodId} {args : Array Value} {below : List Frame} {meth : Method} {c : Code} {D : va_G} {cy : Nat → ClassId} {ad : ks_A} {En : Nat → Prop} {n0 : Nat → Prop} {σ0 : ks_S} {o : Int64} {N : Nat} {out : ks_S} (C : ks_M p s m args meth c D cy ad En (fun k => ks_g k = 1) n0 σ0 o wsX5_leave cX5_leave RX5 4 (none)) : ∀ (n : Nat) (σ : ks_S) (x1 : Int32) (x2 : Int32) (x3 : Int32), f_X5_leave_2 N n σ x1 x2 x3 = some out → ∀ {H : Heap} {locs : List Loc} {ls : Array Slot}, ks_W D cy ad En σ o H → va_S (ks_F n0) s.heap H locs → lv_has ls 4 [(0, .ref (ad 14 0 0)), (1, .int x1), (2, .int x2), (3, .int x3)] → W p l e (ks_Rm 0 0 0 0) s m args below meth c H locs 0 0 (MQ below (ks_Qv D cy ad En n0 o out) args s 0 0 (ks_F n0)) (F0 m 2 ls []) := by
  obtain ⟨hx, hb, hml, hr, hown, hts, hlocks, hG, hU0, hE⟩ := id C
  have hK := hU0.2.2
  intro n
  induction n with
  | zero => intro σ x1 x2 x3; intro  hf; exact absurd hf (by simp [f_X5_leave_2])
  | succ n hk2 =>
    intro σ x1 x2 x3  hf H locs ls hW hS hl
    rw [f_X5_leave_2] at hf
    refine lv_iload_n hx hb dX5_leave_2 rfl (lv_at hl 3 rfl) ?_
    refine lv_aload_n hx hb dX5_leave_3 rfl (lv_at hl 0 rfl) ?_
    refine va_get (D := D) (ci := 5) (v := .ref (ad 44 0 0)) (C := RX5) (T := TX5) (N := 34) hx hb hts in_X5_leave_5 hown hK (ks_P1 hW (ks_v14 (i := 0) (j := 0) (hE 14 rfl)) (ks_c14 cy ad o 0 0 _)) 0 rfl rfl 33 (by decide) (hts (.fieldLink RX5 98 "SpinKernelModel" "many" "[I") (by decide +kernel)) (fun _ h => h) rfl dX5_leave_4 ?_
    refine lv_iload_n hx hb dX5_leave_7 rfl (lv_at hl 2 rfl) ?_
    obtain ⟨hi1, hf⟩ := ks_guard hf
    refine ks_iald hx hb hK hW (ks_v44 (i := 0) (j := 0) (hE 44 rfl)) (ks_c44 cy ad o 0 0 _) hi1 dX5_leave_8 ?_
    refine lv_icmp_ge (tgt := 40) hx hb dX5_leave_9 (by decide) (fun c2 => ?_) (fun c2 => ?_)
    · rw [if_pos c2] at hf
      refine lv_aload_n hx hb dX5_leave_40 rfl (lv_at hl 0 rfl) ?_
      refine va_get (D := D) (ci := 5) (v := .ref (ad 44 0 0)) (C := RX5) (T := TX5) (N := 34) hx hb hts in_X5_leave_5 hown hK (ks_P1 hW (ks_v14 (i := 0) (j := 0) (hE 14 rfl)) (ks_c14 cy ad o 0 0 _)) 0 rfl rfl 33 (by decide) (hts (.fieldLink RX5 98 "SpinKernelModel" "many" "[I") (by decide +kernel)) (fun _ h => h) rfl dX5_leave_41 ?_
      refine lv_iload_n hx hb dX5_leave_44 rfl (lv_at hl 2 rfl) ?_
      refine lv_dup2_11 hx hb dX5_leave_45 rfl rfl ?_
      obtain ⟨hi3, hf⟩ := ks_guard hf
      refine ks_iald hx hb hK hW (ks_v44 (i := 0) (j := 0) (hE 44 rfl)) (ks_c44 cy ad o 0 0 _) hi3 dX5_leave_46 ?_
      refine lv_iconst (v := 1) hx hb dX5_leave_47 (by decide) ?_
      refine lv_isub hx hb dX5_leave_48 ?_
      obtain ⟨hi4, hf⟩ := ks_guard hf
      refine ks_iast hx hb hK hG hW hS (ks_v44 (i := 0) (j := 0) (hE 44 rfl)) (fun c => ks_c44 cy ad o 0 0 c) hi4 dX5_leave_49 (fun H locs hW hS => ?_)
      refine lv_aload_n hx hb dX5_leave_50 rfl (lv_at hl 0 rfl) ?_
      refine va_get (D := D) (ci := 5) (v := .ref (ad 40 0 0)) (C := RX5) (T := TX5) (N := 34) hx hb hts in_X5_leave_5 hown hK (ks_P1 hW (ks_v14 (i := 0) (j := 0) (hE 14 rfl)) (ks_c14 cy ad o 0 0 _)) 0 rfl rfl 29 (by decide) (hts (.fieldLink RX5 86 "SpinKernelModel" "state" "[I") (by decide +kernel)) (fun _ h => h) rfl dX5_leave_51 ?_
      refine lv_iload_n hx hb dX5_leave_54 rfl (lv_at hl 1 rfl) ?_
      refine lv_iconst (v := 1) hx hb dX5_leave_55 (by decide) ?_
      obtain ⟨hi5, hf⟩ := ks_guard hf
      refine ks_iast hx hb hK hG hW hS (ks_v40 (i := 0) (j := 0) (hE 40 rfl)) (fun c => ks_c40 cy ad o 0 0 c) hi5 dX5_leave_56 (fun H locs hW hS => ?_)
      exact ks_vret C hf hW hS dX5_leave_57
    · rw [if_neg c2] at hf
      refine lv_aload_n hx hb dX5_leave_12 rfl (lv_at hl 0 rfl) ?_
      refine va_get (D := D) (ci := 5) (v := .ref (ad 43 0 0)) (C := RX5) (T := TX5) (N := 34) hx hb hts in_X5_leave_5 hown hK (ks_P1 hW (ks_v14 (i := 0) (j := 0) (hE 14 rfl)) (ks_c14 cy ad o 0 0 _)) 0 rfl rfl 32 (by decide) (hts (.fieldLink RX5 95 "SpinKernelModel" "rows" "[I") (by decide +kernel)) (fun _ h => h) rfl dX5_leave_13 ?_
      refine lv_iconst (v := 4) hx hb dX5_leave_16 (by decide) ?_
      refine lv_iload_n hx hb dX5_leave_17 rfl (lv_at hl 2 rfl) ?_
      refine lv_imul hx hb dX5_leave_18 ?_
      refine lv_iload_n hx hb dX5_leave_19 rfl (lv_at hl 3 rfl) ?_
      refine lv_iadd hx hb dX5_leave_20 ?_
      refine lv_iconst (v := 1) hx hb dX5_leave_21 (by decide) ?_
      refine lv_isub hx hb dX5_leave_22 ?_
      refine lv_aload_n hx hb dX5_leave_23 rfl (lv_at hl 0 rfl) ?_
      refine va_get (D := D) (ci := 5) (v := .ref (ad 43 0 0)) (C := RX5) (T := TX5) (N := 34) hx hb hts in_X5_leave_5 hown hK (ks_P1 hW (ks_v14 (i := 0) (j := 0) (hE 14 rfl)) (ks_c14 cy ad o 0 0 _)) 0 rfl rfl 32 (by decide) (hts (.fieldLink RX5 95 "SpinKernelModel" "rows" "[I") (by decide +kernel)) (fun _ h => h) rfl dX5_leave_24 ?_
      refine lv_iconst (v := 4) hx hb dX5_leave_27 (by decide) ?_
      refine lv_iload_n hx hb dX5_leave_28 rfl (lv_at hl 2 rfl) ?_
      refine lv_imul hx hb dX5_leave_29 ?_
      refine lv_iload_n hx hb dX5_leave_30 rfl (lv_at hl 3 rfl) ?_
      refine lv_iadd hx hb dX5_leave_31 ?_
      obtain ⟨hi6, hf⟩ := ks_guard hf
      refine ks_iald hx hb hK hW (ks_v43 (i := 0) (j := 0) (hE 43 rfl)) (ks_c43 cy ad o 0 0 _) hi6 dX5_leave_32 ?_
      obtain ⟨hi7, hf⟩ := ks_guard hf
      refine ks_iast hx hb hK hG hW hS (ks_v43 (i := 0) (j := 0) (hE 43 rfl)) (fun c => ks_c43 cy ad o 0 0 c) hi7 dX5_leave_33 (fun H locs hW hS => ?_)
      refine lv_iinc (v := (x3 + 1)) (lv' := [(3, .int (x3 + 1)), (0, .ref (ad 14 0 0)), (1, .int x1), (2, .int x2)]) hx hb dX5_leave_34 hl (k := 3) rfl rfl (by decide) rfl (fun ls hl => ?_)
      refine lv_goto (tgt := 2) hx hb dX5_leave_37 (by decide) ?_
      exact hk2 _ _ _ _ hf hW hS (lv_sub hl [1, 2, 3, 0] rfl)
set_option maxHeartbeats 4000000 in
set_option maxRecDepth 100000 in
theorem t_X5_leave {p : Program} {l : Launch} {e : Env} {s : State} {m : MethodId} {args : Array Value} {below : List Frame} {meth : Method} {c : Code} {D : va_G} {cy : Nat → ClassId} {ad : ks_A} {En : Nat → Prop} {n0 : Nat → Prop} {σ0 : ks_S} {o : Int64} {N : Nat} {out : ks_S} (C : ks_M p s m args meth c D cy ad En (fun k => ks_g k = 1) n0 σ0 o wsX5_leave cX5_leave RX5 4 (none)) {σ : ks_S} {x1 : Int32} {x2 : Int32}  (hf : f_X5_leave N σ x1 x2 = some out) {H : Heap} {locs : List Loc} {ls : Array Slot} (hW : ks_W D cy ad En σ o H) (hS : va_S (ks_F n0) s.heap H locs) (hl : lv_has ls 4 [(0, .ref (ad 14 0 0)), (1, .int x1), (2, .int x2)]) : W p l e (ks_Rm 0 0 0 0) s m args below meth c H locs 0 0 (MQ below (ks_Qv D cy ad En n0 o out) args s 0 0 (ks_F n0)) (F0 m 0 ls []) := by
  obtain ⟨hx, hb, hml, hr, hown, hts, hlocks, hG, hU0, hE⟩ := id C
  have hK := hU0.2.2
  unfold f_X5_leave at hf
  refine lv_iconst (v := 1) hx hb dX5_leave_0 (by decide) ?_
  refine lv_istore_n (lv' := [(3, .int 1), (0, .ref (ad 14 0 0)), (1, .int x1), (2, .int x2)]) hx hb dX5_leave_1 rfl hl (by decide) rfl (fun ls hl => ?_)
  exact t_X5_leave_2 C _ _ _ _ _  hf hW hS (lv_sub hl [1, 2, 3, 0] rfl)
set_option maxHeartbeats 4000000 in
set_option maxRecDepth 100000 in
theorem m_X5_leave (l : Launch) (D : va_G) (cy : Nat → ClassId) (ad : ks_A) (En : Nat → Prop) (n0 : Nat → Prop) (hG : ks_G ad En n0) (hE : ∀ k, ks_g k = 1 → En k) (o : Int64) {N : Nat} {σ : ks_S} {x1 : Int32} {x2 : Int32}  {out : ks_S} (hf : f_X5_leave N σ x1 x2 = some out) : Met l yX5_leave wsX5_leave (ks_Rm 0 0 0 0) (va_Pc [.ref (ad 14 0 0), .int x1, .int x2] (ks_U D cy ad En n0 σ o)) (ks_Qv D cy ad En n0 o out) 0 0 (ks_F n0) := by
  refine Met.ofW (cc := cX5_leave) (maxL := 4) (ret := none) (by decide) rfl ?_
  intro p e s m args below meth c s₁ B hml hv
  obtain ⟨rfl, hU⟩ := hv
  have hl := lv_entry ([.ref (ad 14 0 0), .int x1, .int x2]) (n := 4) (Nat.le_of_ble_eq_true rfl)
  rw [lg_entry_eq]
  generalize (lg_sl ([.ref (ad 14 0 0), .int x1, .int x2]) ++ List.replicate (4 - (lg_sl ([.ref (ad 14 0 0), .int x1, .int x2])).length) Slot.unset).toArray = ls at hl ⊢
  exact t_X5_leave ⟨B.exec, B.bytes, hml, B.returns, findClass_of_methodNamed B.named, atoms_spec (ws := wsX5_leave) B.pre, B.notSynchronized, hG, hU, hE⟩  hf hU.2.1 va_S.rf hl

/-! SpinKernelModel.end(I)V -/
def f_X5_end_71 (σ : ks_S) (x1 : Int32) (xs0 : Int32) (xs1 : Int32) : Option ks_S :=
  (if ks_in xs1 16 = true then (if ks_in x1 16 = true then (if ks_in x1 16 = true then (if ((((ks_up σ 36 0 0 xs1.toNatClampNeg xs0)) 37 0 0 x1.toNatClampNeg)) ≤ ((((ks_up σ 36 0 0 xs1.toNatClampNeg xs0)) 18 0 0 x1.toNatClampNeg)) then some ((ks_up (ks_up σ 36 0 0 xs1.toNatClampNeg xs0) 14 0 0 27 ((((ks_up σ 36 0 0 xs1.toNatClampNeg xs0)) 14 0 0 27)))) else some ((ks_up (ks_up σ 36 0 0 xs1.toNatClampNeg xs0) 14 0 0 27 ((((((ks_up σ 36 0 0 xs1.toNatClampNeg xs0)) 14 0 0 27)) + 1))))) else none) else none) else none)
def f_X5_end (σ : ks_S) (x1 : Int32) : Option ks_S :=
  (if ks_in x1 16 = true then (if ks_in x1 16 = true then (if ks_in x1 16 = true then (if ks_in x1 16 = true then (if ks_in x1 16 = true then (if ks_in x1 16 = true then (if ks_in x1 16 = true then (if ((((ks_up (ks_up (ks_up σ 26 0 0 x1.toNatClampNeg 0) 35 0 0 x1.toNatClampNeg ((((((ks_up σ 26 0 0 x1.toNatClampNeg 0)) 35 0 0 x1.toNatClampNeg)) + 1))) 37 0 0 x1.toNatClampNeg ((((((((ks_up (ks_up σ 26 0 0 x1.toNatClampNeg 0) 35 0 0 x1.toNatClampNeg ((((((ks_up σ 26 0 0 x1.toNatClampNeg 0)) 35 0 0 x1.toNatClampNeg)) + 1)))) 14 0 0 13)) + 1)) - ((((ks_up (ks_up σ 26 0 0 x1.toNatClampNeg 0) 35 0 0 x1.toNatClampNeg ((((((ks_up σ 26 0 0 x1.toNatClampNeg 0)) 35 0 0 x1.toNatClampNeg)) + 1)))) 28 0 0 x1.toNatClampNeg)))))) 37 0 0 x1.toNatClampNeg)) ≤ ((((ks_up (ks_up (ks_up σ 26 0 0 x1.toNatClampNeg 0) 35 0 0 x1.toNatClampNeg ((((((ks_up σ 26 0 0 x1.toNatClampNeg 0)) 35 0 0 x1.toNatClampNeg)) + 1))) 37 0 0 x1.toNatClampNeg ((((((((ks_up (ks_up σ 26 0 0 x1.toNatClampNeg 0) 35 0 0 x1.toNatClampNeg ((((((ks_up σ 26 0 0 x1.toNatClampNeg 0)) 35 0 0 x1.toNatClampNeg)) + 1)))) 14 0 0 13)) + 1)) - ((((ks_up (ks_up σ 26 0 0 x1.toNatClampNeg 0) 35 0 0 x1.toNatClampNeg ((((((ks_up σ 26 0 0 x1.toNatClampNeg 0)) 35 0 0 x1.toNatClampNeg)) + 1)))) 28 0 0 x1.toNatClampNeg)))))) 36 0 0 x1.toNatClampNeg)) then (if ks_in x1 16 = true then f_X5_end_71 ((ks_up (ks_up (ks_up σ 26 0 0 x1.toNatClampNeg 0) 35 0 0 x1.toNatClampNeg ((((((ks_up σ 26 0 0 x1.toNatClampNeg 0)) 35 0 0 x1.toNatClampNeg)) + 1))) 37 0 0 x1.toNatClampNeg ((((((((ks_up (ks_up σ 26 0 0 x1.toNatClampNeg 0) 35 0 0 x1.toNatClampNeg ((((((ks_up σ 26 0 0 x1.toNatClampNeg 0)) 35 0 0 x1.toNatClampNeg)) + 1)))) 14 0 0 13)) + 1)) - ((((ks_up (ks_up σ 26 0 0 x1.toNatClampNeg 0) 35 0 0 x1.toNatClampNeg ((((((ks_up σ 26 0 0 x1.toNatClampNeg 0)) 35 0 0 x1.toNatClampNeg)) + 1)))) 28 0 0 x1.toNatClampNeg)))))) x1 ((((ks_up (ks_up (ks_up σ 26 0 0 x1.toNatClampNeg 0) 35 0 0 x1.toNatClampNeg ((((((ks_up σ 26 0 0 x1.toNatClampNeg 0)) 35 0 0 x1.toNatClampNeg)) + 1))) 37 0 0 x1.toNatClampNeg ((((((((ks_up (ks_up σ 26 0 0 x1.toNatClampNeg 0) 35 0 0 x1.toNatClampNeg ((((((ks_up σ 26 0 0 x1.toNatClampNeg 0)) 35 0 0 x1.toNatClampNeg)) + 1)))) 14 0 0 13)) + 1)) - ((((ks_up (ks_up σ 26 0 0 x1.toNatClampNeg 0) 35 0 0 x1.toNatClampNeg ((((((ks_up σ 26 0 0 x1.toNatClampNeg 0)) 35 0 0 x1.toNatClampNeg)) + 1)))) 28 0 0 x1.toNatClampNeg)))))) 36 0 0 x1.toNatClampNeg)) x1 else none) else (if ks_in x1 16 = true then f_X5_end_71 ((ks_up (ks_up (ks_up σ 26 0 0 x1.toNatClampNeg 0) 35 0 0 x1.toNatClampNeg ((((((ks_up σ 26 0 0 x1.toNatClampNeg 0)) 35 0 0 x1.toNatClampNeg)) + 1))) 37 0 0 x1.toNatClampNeg ((((((((ks_up (ks_up σ 26 0 0 x1.toNatClampNeg 0) 35 0 0 x1.toNatClampNeg ((((((ks_up σ 26 0 0 x1.toNatClampNeg 0)) 35 0 0 x1.toNatClampNeg)) + 1)))) 14 0 0 13)) + 1)) - ((((ks_up (ks_up σ 26 0 0 x1.toNatClampNeg 0) 35 0 0 x1.toNatClampNeg ((((((ks_up σ 26 0 0 x1.toNatClampNeg 0)) 35 0 0 x1.toNatClampNeg)) + 1)))) 28 0 0 x1.toNatClampNeg)))))) x1 ((((ks_up (ks_up (ks_up σ 26 0 0 x1.toNatClampNeg 0) 35 0 0 x1.toNatClampNeg ((((((ks_up σ 26 0 0 x1.toNatClampNeg 0)) 35 0 0 x1.toNatClampNeg)) + 1))) 37 0 0 x1.toNatClampNeg ((((((((ks_up (ks_up σ 26 0 0 x1.toNatClampNeg 0) 35 0 0 x1.toNatClampNeg ((((((ks_up σ 26 0 0 x1.toNatClampNeg 0)) 35 0 0 x1.toNatClampNeg)) + 1)))) 14 0 0 13)) + 1)) - ((((ks_up (ks_up σ 26 0 0 x1.toNatClampNeg 0) 35 0 0 x1.toNatClampNeg ((((((ks_up σ 26 0 0 x1.toNatClampNeg 0)) 35 0 0 x1.toNatClampNeg)) + 1)))) 28 0 0 x1.toNatClampNeg)))))) 37 0 0 x1.toNatClampNeg)) x1 else none)) else none) else none) else none) else none) else none) else none) else none)
theorem in_X5_end_5 : ∀ w ∈ wsX50, w ∈ wsX5_end := by decide +kernel
set_option maxHeartbeats 4000000 in
set_option maxRecDepth 100000 in
theorem t_X5_end_71 {p : Program} {l : Launch} {e : Env} {s : State} {m : MethodId} {args : Array Value} {below : List Frame} {meth : Method} {c : Code} {D : va_G} {cy : Nat → ClassId} {ad : ks_A} {En : Nat → Prop} {n0 : Nat → Prop} {σ0 : ks_S} {o : Int64} {out : ks_S} (C : ks_M p s m args meth c D cy ad En (fun k => ks_g k = 1) n0 σ0 o wsX5_end cX5_end RX5 2 (none)) {σ : ks_S} {x1 : Int32} {xs0 : Int32} {xs1 : Int32}  (hf : f_X5_end_71 σ x1 xs0 xs1 = some out) {H : Heap} {locs : List Loc} {ls : Array Slot} (hW : ks_W D cy ad En σ o H) (hS : va_S (ks_F n0) s.heap H locs) (hl : lv_has ls 2 [(0, .ref (ad 14 0 0)), (1, .int x1)]) : W p l e (ks_Rm 0 0 0 0) s m args below meth c H locs 0 0 (MQ below (ks_Qv D cy ad En n0 o out) args s 0 0 (ks_F n0)) (F0 m 71 ls [.int xs0, .int xs1, .ref (ad 36 0 0)]) := by
  obtain ⟨hx, hb, hml, hr, hown, hts, hlocks, hG, hU0, hE⟩ := id C
  have hK := hU0.2.2
  unfold f_X5_end_71 at hf
  obtain ⟨hi10, hf⟩ := ks_guard hf
  refine ks_iast hx hb hK hG hW hS (ks_v36 (i := 0) (j := 0) (hE 36 rfl)) (fun c => ks_c36 cy ad o 0 0 c) hi10 dX5_end_71 (fun H locs hW hS => ?_)
  refine lv_aload_n hx hb dX5_end_72 rfl (lv_at hl 0 rfl) ?_
  refine lv_aload_n hx hb dX5_end_73 rfl (lv_at hl 0 rfl) ?_
  refine va_get (D := D) (ci := 5) (v := .ref (ad 37 0 0)) (C := RX5) (T := TX5) (N := 34) hx hb hts in_X5_end_5 hown hK (ks_P1 hW (ks_v14 (i := 0) (j := 0) (hE 14 rfl)) (ks_c14 cy ad o 0 0 _)) 0 rfl rfl 25 (by decide) (hts (.fieldLink RX5 77 "SpinKernelModel" "latest" "[I") (by decide +kernel)) (fun _ h => h) rfl dX5_end_74 ?_
  refine lv_iload_n hx hb dX5_end_77 rfl (lv_at hl 1 rfl) ?_
  obtain ⟨hi11, hf⟩ := ks_guard hf
  refine ks_iald hx hb hK hW (ks_v37 (i := 0) (j := 0) (hE 37 rfl)) (ks_c37 cy ad o 0 0 _) hi11 dX5_end_78 ?_
  refine lv_aload_n hx hb dX5_end_79 rfl (lv_at hl 0 rfl) ?_
  refine va_get (D := D) (ci := 5) (v := .ref (ad 18 0 0)) (C := RX5) (T := TX5) (N := 34) hx hb hts in_X5_end_5 hown hK (ks_P1 hW (ks_v14 (i := 0) (j := 0) (hE 14 rfl)) (ks_c14 cy ad o 0 0 _)) 0 rfl rfl 4 (by decide) (hts (.fieldLink RX5 19 "SpinKernelModel" "deadlines" "[I") (by decide +kernel)) (fun _ h => h) rfl dX5_end_80 ?_
  refine lv_iload_n hx hb dX5_end_83 rfl (lv_at hl 1 rfl) ?_
  obtain ⟨hi12, hf⟩ := ks_guard hf
  refine ks_iald hx hb hK hW (ks_v18 (i := 0) (j := 0) (hE 18 rfl)) (ks_c18 cy ad o 0 0 _) hi12 dX5_end_84 ?_
  refine lv_icmp_le (tgt := 97) hx hb dX5_end_85 (by decide) (fun c13 => ?_) (fun c13 => ?_)
  · rw [if_pos c13] at hf
    refine lv_aload_n hx hb dX5_end_97 rfl (lv_at hl 0 rfl) ?_
    refine va_get (D := D) (ci := 5) (v := .int (((ks_up σ 36 0 0 xs1.toNatClampNeg xs0)) 14 0 0 27)) (C := RX5) (T := TX5) (N := 34) hx hb hts in_X5_end_5 hown hK (ks_P1 hW (ks_v14 (i := 0) (j := 0) (hE 14 rfl)) (ks_c14 cy ad o 0 0 _)) 0 rfl rfl 27 (by decide) (hts (.fieldLink RX5 161 "SpinKernelModel" "behind" "I") (by decide +kernel)) (fun _ h => h) rfl dX5_end_98 ?_
    refine ks_put (D := D) (ci := 5) (C := RX5) (T := TX5) (N := 34) hx hb hts in_X5_end_5 tyX5 tyX5_ok nmX5 hown hK hG hW hS (ks_v14 (i := 0) (j := 0) (hE 14 rfl)) 27 (v := (((ks_up σ 36 0 0 xs1.toNatClampNeg xs0)) 14 0 0 27)) (ks_c14 cy ad o 0 0 _) (ks_c14s27 cy ad o 0 0 _ _) rfl (by decide) (hts (.fieldLink RX5 161 "SpinKernelModel" "behind" "I") (by decide +kernel)) rfl (ty := .int) (by decide +kernel) rfl rfl (Nat.le_of_ble_eq_true rfl) dX5_end_101 (fun H locs hW hS => ?_)
    exact ks_vret C hf hW hS dX5_end_104
  · rw [if_neg c13] at hf
    refine lv_aload_n hx hb dX5_end_88 rfl (lv_at hl 0 rfl) ?_
    refine va_get (D := D) (ci := 5) (v := .int (((ks_up σ 36 0 0 xs1.toNatClampNeg xs0)) 14 0 0 27)) (C := RX5) (T := TX5) (N := 34) hx hb hts in_X5_end_5 hown hK (ks_P1 hW (ks_v14 (i := 0) (j := 0) (hE 14 rfl)) (ks_c14 cy ad o 0 0 _)) 0 rfl rfl 27 (by decide) (hts (.fieldLink RX5 161 "SpinKernelModel" "behind" "I") (by decide +kernel)) (fun _ h => h) rfl dX5_end_89 ?_
    refine lv_iconst (v := 1) hx hb dX5_end_92 (by decide) ?_
    refine lv_iadd hx hb dX5_end_93 ?_
    refine lv_goto (tgt := 101) hx hb dX5_end_94 (by decide) ?_
    refine ks_put (D := D) (ci := 5) (C := RX5) (T := TX5) (N := 34) hx hb hts in_X5_end_5 tyX5 tyX5_ok nmX5 hown hK hG hW hS (ks_v14 (i := 0) (j := 0) (hE 14 rfl)) 27 (v := (((((ks_up σ 36 0 0 xs1.toNatClampNeg xs0)) 14 0 0 27)) + 1)) (ks_c14 cy ad o 0 0 _) (ks_c14s27 cy ad o 0 0 _ _) rfl (by decide) (hts (.fieldLink RX5 161 "SpinKernelModel" "behind" "I") (by decide +kernel)) rfl (ty := .int) (by decide +kernel) rfl rfl (Nat.le_of_ble_eq_true rfl) dX5_end_101 (fun H locs hW hS => ?_)
    exact ks_vret C hf hW hS dX5_end_104
set_option maxHeartbeats 4000000 in
set_option maxRecDepth 100000 in
theorem t_X5_end {p : Program} {l : Launch} {e : Env} {s : State} {m : MethodId} {args : Array Value} {below : List Frame} {meth : Method} {c : Code} {D : va_G} {cy : Nat → ClassId} {ad : ks_A} {En : Nat → Prop} {n0 : Nat → Prop} {σ0 : ks_S} {o : Int64} {out : ks_S} (C : ks_M p s m args meth c D cy ad En (fun k => ks_g k = 1) n0 σ0 o wsX5_end cX5_end RX5 2 (none)) {σ : ks_S} {x1 : Int32}  (hf : f_X5_end σ x1 = some out) {H : Heap} {locs : List Loc} {ls : Array Slot} (hW : ks_W D cy ad En σ o H) (hS : va_S (ks_F n0) s.heap H locs) (hl : lv_has ls 2 [(0, .ref (ad 14 0 0)), (1, .int x1)]) : W p l e (ks_Rm 0 0 0 0) s m args below meth c H locs 0 0 (MQ below (ks_Qv D cy ad En n0 o out) args s 0 0 (ks_F n0)) (F0 m 0 ls []) := by
  obtain ⟨hx, hb, hml, hr, hown, hts, hlocks, hG, hU0, hE⟩ := id C
  have hK := hU0.2.2
  unfold f_X5_end at hf
  refine lv_aload_n hx hb dX5_end_0 rfl (lv_at hl 0 rfl) ?_
  refine va_get (D := D) (ci := 5) (v := .ref (ad 26 0 0)) (C := RX5) (T := TX5) (N := 34) hx hb hts in_X5_end_5 hown hK (ks_P1 hW (ks_v14 (i := 0) (j := 0) (hE 14 rfl)) (ks_c14 cy ad o 0 0 _)) 0 rfl rfl 14 (by decide) (hts (.fieldLink RX5 43 "SpinKernelModel" "open" "[Z") (by decide +kernel)) (fun _ h => h) rfl dX5_end_1 ?_
  refine lv_iload_n hx hb dX5_end_4 rfl (lv_at hl 1 rfl) ?_
  refine lv_iconst (v := 0) hx hb dX5_end_5 (by decide) ?_
  obtain ⟨hi1, hf⟩ := ks_guard hf
  refine ks_zast hx hb hK hG hW hS (ks_v26 (i := 0) (j := 0) (hE 26 rfl)) (fun c => ks_c26 cy ad o 0 0 c) hi1 rfl dX5_end_6 (fun H locs hW hS => ?_)
  refine lv_aload_n hx hb dX5_end_7 rfl (lv_at hl 0 rfl) ?_
  refine va_get (D := D) (ci := 5) (v := .ref (ad 35 0 0)) (C := RX5) (T := TX5) (N := 34) hx hb hts in_X5_end_5 hown hK (ks_P1 hW (ks_v14 (i := 0) (j := 0) (hE 14 rfl)) (ks_c14 cy ad o 0 0 _)) 0 rfl rfl 23 (by decide) (hts (.fieldLink RX5 71 "SpinKernelModel" "ended" "[I") (by decide +kernel)) (fun _ h => h) rfl dX5_end_8 ?_
  refine lv_iload_n hx hb dX5_end_11 rfl (lv_at hl 1 rfl) ?_
  refine lv_dup2_11 hx hb dX5_end_12 rfl rfl ?_
  obtain ⟨hi2, hf⟩ := ks_guard hf
  refine ks_iald hx hb hK hW (ks_v35 (i := 0) (j := 0) (hE 35 rfl)) (ks_c35 cy ad o 0 0 _) hi2 dX5_end_13 ?_
  refine lv_iconst (v := 1) hx hb dX5_end_14 (by decide) ?_
  refine lv_iadd hx hb dX5_end_15 ?_
  obtain ⟨hi3, hf⟩ := ks_guard hf
  refine ks_iast hx hb hK hG hW hS (ks_v35 (i := 0) (j := 0) (hE 35 rfl)) (fun c => ks_c35 cy ad o 0 0 c) hi3 dX5_end_16 (fun H locs hW hS => ?_)
  refine lv_aload_n hx hb dX5_end_17 rfl (lv_at hl 0 rfl) ?_
  refine va_get (D := D) (ci := 5) (v := .ref (ad 37 0 0)) (C := RX5) (T := TX5) (N := 34) hx hb hts in_X5_end_5 hown hK (ks_P1 hW (ks_v14 (i := 0) (j := 0) (hE 14 rfl)) (ks_c14 cy ad o 0 0 _)) 0 rfl rfl 25 (by decide) (hts (.fieldLink RX5 77 "SpinKernelModel" "latest" "[I") (by decide +kernel)) (fun _ h => h) rfl dX5_end_18 ?_
  refine lv_iload_n hx hb dX5_end_21 rfl (lv_at hl 1 rfl) ?_
  refine lv_aload_n hx hb dX5_end_22 rfl (lv_at hl 0 rfl) ?_
  refine va_get (D := D) (ci := 5) (v := .int (((ks_up (ks_up σ 26 0 0 x1.toNatClampNeg 0) 35 0 0 x1.toNatClampNeg ((((((ks_up σ 26 0 0 x1.toNatClampNeg 0)) 35 0 0 x1.toNatClampNeg)) + 1)))) 14 0 0 13)) (C := RX5) (T := TX5) (N := 34) hx hb hts in_X5_end_5 hown hK (ks_P1 hW (ks_v14 (i := 0) (j := 0) (hE 14 rfl)) (ks_c14 cy ad o 0 0 _)) 0 rfl rfl 13 (by decide) (hts (.fieldLink RX5 158 "SpinKernelModel" "now" "I") (by decide +kernel)) (fun _ h => h) rfl dX5_end_23 ?_
  refine lv_iconst (v := 1) hx hb dX5_end_26 (by decide) ?_
  refine lv_iadd hx hb dX5_end_27 ?_
  refine lv_aload_n hx hb dX5_end_28 rfl (lv_at hl 0 rfl) ?_
  refine va_get (D := D) (ci := 5) (v := .ref (ad 28 0 0)) (C := RX5) (T := TX5) (N := 34) hx hb hts in_X5_end_5 hown hK (ks_P1 hW (ks_v14 (i := 0) (j := 0) (hE 14 rfl)) (ks_c14 cy ad o 0 0 _)) 0 rfl rfl 16 (by decide) (hts (.fieldLink RX5 50 "SpinKernelModel" "times" "[I") (by decide +kernel)) (fun _ h => h) rfl dX5_end_29 ?_
  refine lv_iload_n hx hb dX5_end_32 rfl (lv_at hl 1 rfl) ?_
  obtain ⟨hi4, hf⟩ := ks_guard hf
  refine ks_iald hx hb hK hW (ks_v28 (i := 0) (j := 0) (hE 28 rfl)) (ks_c28 cy ad o 0 0 _) hi4 dX5_end_33 ?_
  refine lv_isub hx hb dX5_end_34 ?_
  obtain ⟨hi5, hf⟩ := ks_guard hf
  refine ks_iast hx hb hK hG hW hS (ks_v37 (i := 0) (j := 0) (hE 37 rfl)) (fun c => ks_c37 cy ad o 0 0 c) hi5 dX5_end_35 (fun H locs hW hS => ?_)
  refine lv_aload_n hx hb dX5_end_36 rfl (lv_at hl 0 rfl) ?_
  refine va_get (D := D) (ci := 5) (v := .ref (ad 36 0 0)) (C := RX5) (T := TX5) (N := 34) hx hb hts in_X5_end_5 hown hK (ks_P1 hW (ks_v14 (i := 0) (j := 0) (hE 14 rfl)) (ks_c14 cy ad o 0 0 _)) 0 rfl rfl 24 (by decide) (hts (.fieldLink RX5 74 "SpinKernelModel" "greatest" "[I") (by decide +kernel)) (fun _ h => h) rfl dX5_end_37 ?_
  refine lv_iload_n hx hb dX5_end_40 rfl (lv_at hl 1 rfl) ?_
  refine lv_aload_n hx hb dX5_end_41 rfl (lv_at hl 0 rfl) ?_
  refine va_get (D := D) (ci := 5) (v := .ref (ad 37 0 0)) (C := RX5) (T := TX5) (N := 34) hx hb hts in_X5_end_5 hown hK (ks_P1 hW (ks_v14 (i := 0) (j := 0) (hE 14 rfl)) (ks_c14 cy ad o 0 0 _)) 0 rfl rfl 25 (by decide) (hts (.fieldLink RX5 77 "SpinKernelModel" "latest" "[I") (by decide +kernel)) (fun _ h => h) rfl dX5_end_42 ?_
  refine lv_iload_n hx hb dX5_end_45 rfl (lv_at hl 1 rfl) ?_
  obtain ⟨hi6, hf⟩ := ks_guard hf
  refine ks_iald hx hb hK hW (ks_v37 (i := 0) (j := 0) (hE 37 rfl)) (ks_c37 cy ad o 0 0 _) hi6 dX5_end_46 ?_
  refine lv_aload_n hx hb dX5_end_47 rfl (lv_at hl 0 rfl) ?_
  refine va_get (D := D) (ci := 5) (v := .ref (ad 36 0 0)) (C := RX5) (T := TX5) (N := 34) hx hb hts in_X5_end_5 hown hK (ks_P1 hW (ks_v14 (i := 0) (j := 0) (hE 14 rfl)) (ks_c14 cy ad o 0 0 _)) 0 rfl rfl 24 (by decide) (hts (.fieldLink RX5 74 "SpinKernelModel" "greatest" "[I") (by decide +kernel)) (fun _ h => h) rfl dX5_end_48 ?_
  refine lv_iload_n hx hb dX5_end_51 rfl (lv_at hl 1 rfl) ?_
  obtain ⟨hi7, hf⟩ := ks_guard hf
  refine ks_iald hx hb hK hW (ks_v36 (i := 0) (j := 0) (hE 36 rfl)) (ks_c36 cy ad o 0 0 _) hi7 dX5_end_52 ?_
  refine lv_icmp_le (tgt := 65) hx hb dX5_end_53 (by decide) (fun c8 => ?_) (fun c8 => ?_)
  · rw [if_pos c8] at hf
    refine lv_aload_n hx hb dX5_end_65 rfl (lv_at hl 0 rfl) ?_
    refine va_get (D := D) (ci := 5) (v := .ref (ad 36 0 0)) (C := RX5) (T := TX5) (N := 34) hx hb hts in_X5_end_5 hown hK (ks_P1 hW (ks_v14 (i := 0) (j := 0) (hE 14 rfl)) (ks_c14 cy ad o 0 0 _)) 0 rfl rfl 24 (by decide) (hts (.fieldLink RX5 74 "SpinKernelModel" "greatest" "[I") (by decide +kernel)) (fun _ h => h) rfl dX5_end_66 ?_
    refine lv_iload_n hx hb dX5_end_69 rfl (lv_at hl 1 rfl) ?_
    obtain ⟨hi9, hf⟩ := ks_guard hf
    refine ks_iald hx hb hK hW (ks_v36 (i := 0) (j := 0) (hE 36 rfl)) (ks_c36 cy ad o 0 0 _) hi9 dX5_end_70 ?_
    exact t_X5_end_71 C  hf hW hS (lv_sub hl [0, 1] rfl)
  · rw [if_neg c8] at hf
    refine lv_aload_n hx hb dX5_end_56 rfl (lv_at hl 0 rfl) ?_
    refine va_get (D := D) (ci := 5) (v := .ref (ad 37 0 0)) (C := RX5) (T := TX5) (N := 34) hx hb hts in_X5_end_5 hown hK (ks_P1 hW (ks_v14 (i := 0) (j := 0) (hE 14 rfl)) (ks_c14 cy ad o 0 0 _)) 0 rfl rfl 25 (by decide) (hts (.fieldLink RX5 77 "SpinKernelModel" "latest" "[I") (by decide +kernel)) (fun _ h => h) rfl dX5_end_57 ?_
    refine lv_iload_n hx hb dX5_end_60 rfl (lv_at hl 1 rfl) ?_
    obtain ⟨hi14, hf⟩ := ks_guard hf
    refine ks_iald hx hb hK hW (ks_v37 (i := 0) (j := 0) (hE 37 rfl)) (ks_c37 cy ad o 0 0 _) hi14 dX5_end_61 ?_
    refine lv_goto (tgt := 71) hx hb dX5_end_62 (by decide) ?_
    exact t_X5_end_71 C  hf hW hS (lv_sub hl [0, 1] rfl)
set_option maxHeartbeats 4000000 in
set_option maxRecDepth 100000 in
theorem m_X5_end (l : Launch) (D : va_G) (cy : Nat → ClassId) (ad : ks_A) (En : Nat → Prop) (n0 : Nat → Prop) (hG : ks_G ad En n0) (hE : ∀ k, ks_g k = 1 → En k) (o : Int64) {σ : ks_S} {x1 : Int32}  {out : ks_S} (hf : f_X5_end σ x1 = some out) : Met l yX5_end wsX5_end (ks_Rm 0 0 0 0) (va_Pc [.ref (ad 14 0 0), .int x1] (ks_U D cy ad En n0 σ o)) (ks_Qv D cy ad En n0 o out) 0 0 (ks_F n0) := by
  refine Met.ofW (cc := cX5_end) (maxL := 2) (ret := none) (by decide) rfl ?_
  intro p e s m args below meth c s₁ B hml hv
  obtain ⟨rfl, hU⟩ := hv
  have hl := lv_entry ([.ref (ad 14 0 0), .int x1]) (n := 2) (Nat.le_of_ble_eq_true rfl)
  rw [lg_entry_eq]
  generalize (lg_sl ([.ref (ad 14 0 0), .int x1]) ++ List.replicate (2 - (lg_sl ([.ref (ad 14 0 0), .int x1])).length) Slot.unset).toArray = ls at hl ⊢
  exact t_X5_end ⟨B.exec, B.bytes, hml, B.returns, findClass_of_methodNamed B.named, atoms_spec (ws := wsX5_end) B.pre, B.notSynchronized, hG, hU, hE⟩  hf hU.2.1 va_S.rf hl

/-! SpinKernelModel.goOn(I)I -/
def f_X5_goOn_160 (N : Nat) (σ : ks_S) (x1 : Int32) (x2 : Int32) : Option (Int32 × ks_S) :=
  (if ks_in x1 4 = true then (if 1 < ((σ 40 0 0 x1.toNatClampNeg)) then some (0, σ) else (if ks_in x2 16 = true then (if ks_in x2 16 = true then (if ((σ 29 0 0 x2.toNatClampNeg)) < ((σ 19 0 0 x2.toNatClampNeg)) then some (0, σ) else (if ks_in x2 16 = true then (if ks_in x2 16 = true then (if ((σ 20 0 0 x2.toNatClampNeg)) ≤ ((σ 30 0 0 x2.toNatClampNeg)) then ((f_X5_end σ x2).bind fun s23 => some (1, s23)) else some (0, σ)) else none) else none)) else none) else none)) else none)
def f_X5_goOn_122 (N : Nat) (σ : ks_S) (x1 : Int32) (x2 : Int32) (xs0 : Int32) (xs1 : Int32) : Option (Int32 × ks_S) :=
  (if ks_in xs1 96 = true then f_X5_goOn_160 N ((ks_up σ 38 0 0 xs1.toNatClampNeg xs0)) x1 x2 else none)
def f_X5_goOn (N : Nat) (σ : ks_S) (x1 : Int32) : Option (Int32 × ks_S) :=
  (if ks_in x1 4 = true then (if ks_in x1 4 = true then (if ks_in x1 4 = true then (if ks_in x1 4 = true then (if 0 ≤ ((σ 39 0 0 x1.toNatClampNeg)) then (if ks_in x1 4 = true then (if ((((ks_up (ks_up σ 41 0 0 x1.toNatClampNeg ((σ 39 0 0 x1.toNatClampNeg))) 42 0 0 x1.toNatClampNeg ((((ks_up σ 41 0 0 x1.toNatClampNeg ((σ 39 0 0 x1.toNatClampNeg)))) 40 0 0 x1.toNatClampNeg)))) 40 0 0 x1.toNatClampNeg)) = 1 then (if ks_in ((σ 39 0 0 x1.toNatClampNeg)) 16 = true then (if ks_in ((σ 39 0 0 x1.toNatClampNeg)) 16 = true then f_X5_goOn_160 N ((ks_up (ks_up (ks_up σ 41 0 0 x1.toNatClampNeg ((σ 39 0 0 x1.toNatClampNeg))) 42 0 0 x1.toNatClampNeg ((((ks_up σ 41 0 0 x1.toNatClampNeg ((σ 39 0 0 x1.toNatClampNeg)))) 40 0 0 x1.toNatClampNeg))) 29 0 0 ((σ 39 0 0 x1.toNatClampNeg)).toNatClampNeg ((((((ks_up (ks_up σ 41 0 0 x1.toNatClampNeg ((σ 39 0 0 x1.toNatClampNeg))) 42 0 0 x1.toNatClampNeg ((((ks_up σ 41 0 0 x1.toNatClampNeg ((σ 39 0 0 x1.toNatClampNeg)))) 40 0 0 x1.toNatClampNeg)))) 29 0 0 ((σ 39 0 0 x1.toNatClampNeg)).toNatClampNeg)) + 1)))) x1 ((σ 39 0 0 x1.toNatClampNeg)) else none) else none) else (if ks_in x1 4 = true then (if ((((ks_up (ks_up σ 41 0 0 x1.toNatClampNeg ((σ 39 0 0 x1.toNatClampNeg))) 42 0 0 x1.toNatClampNeg ((((ks_up σ 41 0 0 x1.toNatClampNeg ((σ 39 0 0 x1.toNatClampNeg)))) 40 0 0 x1.toNatClampNeg)))) 40 0 0 x1.toNatClampNeg)) = 2 then (if ks_in ((σ 39 0 0 x1.toNatClampNeg)) 16 = true then (if ks_in ((σ 39 0 0 x1.toNatClampNeg)) 16 = true then (if ks_in ((σ 39 0 0 x1.toNatClampNeg)) 16 = true then (if ks_in ((σ 39 0 0 x1.toNatClampNeg)) 16 = true then (if ks_in ((((6 * ((σ 39 0 0 x1.toNatClampNeg)))) + ((((ks_up (ks_up (ks_up σ 41 0 0 x1.toNatClampNeg ((σ 39 0 0 x1.toNatClampNeg))) 42 0 0 x1.toNatClampNeg ((((ks_up σ 41 0 0 x1.toNatClampNeg ((σ 39 0 0 x1.toNatClampNeg)))) 40 0 0 x1.toNatClampNeg))) 32 0 0 ((σ 39 0 0 x1.toNatClampNeg)).toNatClampNeg ((((((ks_up (ks_up σ 41 0 0 x1.toNatClampNeg ((σ 39 0 0 x1.toNatClampNeg))) 42 0 0 x1.toNatClampNeg ((((ks_up σ 41 0 0 x1.toNatClampNeg ((σ 39 0 0 x1.toNatClampNeg)))) 40 0 0 x1.toNatClampNeg)))) 32 0 0 ((σ 39 0 0 x1.toNatClampNeg)).toNatClampNeg)) + 1)))) 30 0 0 ((σ 39 0 0 x1.toNatClampNeg)).toNatClampNeg)))) 96 = true then (if ((((ks_up (ks_up (ks_up σ 41 0 0 x1.toNatClampNeg ((σ 39 0 0 x1.toNatClampNeg))) 42 0 0 x1.toNatClampNeg ((((ks_up σ 41 0 0 x1.toNatClampNeg ((σ 39 0 0 x1.toNatClampNeg)))) 40 0 0 x1.toNatClampNeg))) 32 0 0 ((σ 39 0 0 x1.toNatClampNeg)).toNatClampNeg ((((((ks_up (ks_up σ 41 0 0 x1.toNatClampNeg ((σ 39 0 0 x1.toNatClampNeg))) 42 0 0 x1.toNatClampNeg ((((ks_up σ 41 0 0 x1.toNatClampNeg ((σ 39 0 0 x1.toNatClampNeg)))) 40 0 0 x1.toNatClampNeg)))) 32 0 0 ((σ 39 0 0 x1.toNatClampNeg)).toNatClampNeg)) + 1)))) 32 0 0 ((σ 39 0 0 x1.toNatClampNeg)).toNatClampNeg)) ≤ ((((ks_up (ks_up (ks_up σ 41 0 0 x1.toNatClampNeg ((σ 39 0 0 x1.toNatClampNeg))) 42 0 0 x1.toNatClampNeg ((((ks_up σ 41 0 0 x1.toNatClampNeg ((σ 39 0 0 x1.toNatClampNeg)))) 40 0 0 x1.toNatClampNeg))) 32 0 0 ((σ 39 0 0 x1.toNatClampNeg)).toNatClampNeg ((((((ks_up (ks_up σ 41 0 0 x1.toNatClampNeg ((σ 39 0 0 x1.toNatClampNeg))) 42 0 0 x1.toNatClampNeg ((((ks_up σ 41 0 0 x1.toNatClampNeg ((σ 39 0 0 x1.toNatClampNeg)))) 40 0 0 x1.toNatClampNeg)))) 32 0 0 ((σ 39 0 0 x1.toNatClampNeg)).toNatClampNeg)) + 1)))) 38 0 0 ((((6 * ((σ 39 0 0 x1.toNatClampNeg)))) + ((((ks_up (ks_up (ks_up σ 41 0 0 x1.toNatClampNeg ((σ 39 0 0 x1.toNatClampNeg))) 42 0 0 x1.toNatClampNeg ((((ks_up σ 41 0 0 x1.toNatClampNeg ((σ 39 0 0 x1.toNatClampNeg)))) 40 0 0 x1.toNatClampNeg))) 32 0 0 ((σ 39 0 0 x1.toNatClampNeg)).toNatClampNeg ((((((ks_up (ks_up σ 41 0 0 x1.toNatClampNeg ((σ 39 0 0 x1.toNatClampNeg))) 42 0 0 x1.toNatClampNeg ((((ks_up σ 41 0 0 x1.toNatClampNeg ((σ 39 0 0 x1.toNatClampNeg)))) 40 0 0 x1.toNatClampNeg)))) 32 0 0 ((σ 39 0 0 x1.toNatClampNeg)).toNatClampNeg)) + 1)))) 30 0 0 ((σ 39 0 0 x1.toNatClampNeg)).toNatClampNeg)))).toNatClampNeg)) then (if ks_in ((((6 * ((σ 39 0 0 x1.toNatClampNeg)))) + ((((ks_up (ks_up (ks_up σ 41 0 0 x1.toNatClampNeg ((σ 39 0 0 x1.toNatClampNeg))) 42 0 0 x1.toNatClampNeg ((((ks_up σ 41 0 0 x1.toNatClampNeg ((σ 39 0 0 x1.toNatClampNeg)))) 40 0 0 x1.toNatClampNeg))) 32 0 0 ((σ 39 0 0 x1.toNatClampNeg)).toNatClampNeg ((((((ks_up (ks_up σ 41 0 0 x1.toNatClampNeg ((σ 39 0 0 x1.toNatClampNeg))) 42 0 0 x1.toNatClampNeg ((((ks_up σ 41 0 0 x1.toNatClampNeg ((σ 39 0 0 x1.toNatClampNeg)))) 40 0 0 x1.toNatClampNeg)))) 32 0 0 ((σ 39 0 0 x1.toNatClampNeg)).toNatClampNeg)) + 1)))) 30 0 0 ((σ 39 0 0 x1.toNatClampNeg)).toNatClampNeg)))) 96 = true then f_X5_goOn_122 N ((ks_up (ks_up (ks_up σ 41 0 0 x1.toNatClampNeg ((σ 39 0 0 x1.toNatClampNeg))) 42 0 0 x1.toNatClampNeg ((((ks_up σ 41 0 0 x1.toNatClampNeg ((σ 39 0 0 x1.toNatClampNeg)))) 40 0 0 x1.toNatClampNeg))) 32 0 0 ((σ 39 0 0 x1.toNatClampNeg)).toNatClampNeg ((((((ks_up (ks_up σ 41 0 0 x1.toNatClampNeg ((σ 39 0 0 x1.toNatClampNeg))) 42 0 0 x1.toNatClampNeg ((((ks_up σ 41 0 0 x1.toNatClampNeg ((σ 39 0 0 x1.toNatClampNeg)))) 40 0 0 x1.toNatClampNeg)))) 32 0 0 ((σ 39 0 0 x1.toNatClampNeg)).toNatClampNeg)) + 1)))) x1 ((σ 39 0 0 x1.toNatClampNeg)) ((((ks_up (ks_up (ks_up σ 41 0 0 x1.toNatClampNeg ((σ 39 0 0 x1.toNatClampNeg))) 42 0 0 x1.toNatClampNeg ((((ks_up σ 41 0 0 x1.toNatClampNeg ((σ 39 0 0 x1.toNatClampNeg)))) 40 0 0 x1.toNatClampNeg))) 32 0 0 ((σ 39 0 0 x1.toNatClampNeg)).toNatClampNeg ((((((ks_up (ks_up σ 41 0 0 x1.toNatClampNeg ((σ 39 0 0 x1.toNatClampNeg))) 42 0 0 x1.toNatClampNeg ((((ks_up σ 41 0 0 x1.toNatClampNeg ((σ 39 0 0 x1.toNatClampNeg)))) 40 0 0 x1.toNatClampNeg)))) 32 0 0 ((σ 39 0 0 x1.toNatClampNeg)).toNatClampNeg)) + 1)))) 38 0 0 ((((6 * ((σ 39 0 0 x1.toNatClampNeg)))) + ((((ks_up (ks_up (ks_up σ 41 0 0 x1.toNatClampNeg ((σ 39 0 0 x1.toNatClampNeg))) 42 0 0 x1.toNatClampNeg ((((ks_up σ 41 0 0 x1.toNatClampNeg ((σ 39 0 0 x1.toNatClampNeg)))) 40 0 0 x1.toNatClampNeg))) 32 0 0 ((σ 39 0 0 x1.toNatClampNeg)).toNatClampNeg ((((((ks_up (ks_up σ 41 0 0 x1.toNatClampNeg ((σ 39 0 0 x1.toNatClampNeg))) 42 0 0 x1.toNatClampNeg ((((ks_up σ 41 0 0 x1.toNatClampNeg ((σ 39 0 0 x1.toNatClampNeg)))) 40 0 0 x1.toNatClampNeg)))) 32 0 0 ((σ 39 0 0 x1.toNatClampNeg)).toNatClampNeg)) + 1)))) 30 0 0 ((σ 39 0 0 x1.toNatClampNeg)).toNatClampNeg)))).toNatClampNeg)) ((((6 * ((σ 39 0 0 x1.toNatClampNeg)))) + ((((ks_up (ks_up (ks_up σ 41 0 0 x1.toNatClampNeg ((σ 39 0 0 x1.toNatClampNeg))) 42 0 0 x1.toNatClampNeg ((((ks_up σ 41 0 0 x1.toNatClampNeg ((σ 39 0 0 x1.toNatClampNeg)))) 40 0 0 x1.toNatClampNeg))) 32 0 0 ((σ 39 0 0 x1.toNatClampNeg)).toNatClampNeg ((((((ks_up (ks_up σ 41 0 0 x1.toNatClampNeg ((σ 39 0 0 x1.toNatClampNeg))) 42 0 0 x1.toNatClampNeg ((((ks_up σ 41 0 0 x1.toNatClampNeg ((σ 39 0 0 x1.toNatClampNeg)))) 40 0 0 x1.toNatClampNeg)))) 32 0 0 ((σ 39 0 0 x1.toNatClampNeg)).toNatClampNeg)) + 1)))) 30 0 0 ((σ 39 0 0 x1.toNatClampNeg)).toNatClampNeg)))) else none) else (if ks_in ((σ 39 0 0 x1.toNatClampNeg)) 16 = true then f_X5_goOn_122 N ((ks_up (ks_up (ks_up σ 41 0 0 x1.toNatClampNeg ((σ 39 0 0 x1.toNatClampNeg))) 42 0 0 x1.toNatClampNeg ((((ks_up σ 41 0 0 x1.toNatClampNeg ((σ 39 0 0 x1.toNatClampNeg)))) 40 0 0 x1.toNatClampNeg))) 32 0 0 ((σ 39 0 0 x1.toNatClampNeg)).toNatClampNeg ((((((ks_up (ks_up σ 41 0 0 x1.toNatClampNeg ((σ 39 0 0 x1.toNatClampNeg))) 42 0 0 x1.toNatClampNeg ((((ks_up σ 41 0 0 x1.toNatClampNeg ((σ 39 0 0 x1.toNatClampNeg)))) 40 0 0 x1.toNatClampNeg)))) 32 0 0 ((σ 39 0 0 x1.toNatClampNeg)).toNatClampNeg)) + 1)))) x1 ((σ 39 0 0 x1.toNatClampNeg)) ((((ks_up (ks_up (ks_up σ 41 0 0 x1.toNatClampNeg ((σ 39 0 0 x1.toNatClampNeg))) 42 0 0 x1.toNatClampNeg ((((ks_up σ 41 0 0 x1.toNatClampNeg ((σ 39 0 0 x1.toNatClampNeg)))) 40 0 0 x1.toNatClampNeg))) 32 0 0 ((σ 39 0 0 x1.toNatClampNeg)).toNatClampNeg ((((((ks_up (ks_up σ 41 0 0 x1.toNatClampNeg ((σ 39 0 0 x1.toNatClampNeg))) 42 0 0 x1.toNatClampNeg ((((ks_up σ 41 0 0 x1.toNatClampNeg ((σ 39 0 0 x1.toNatClampNeg)))) 40 0 0 x1.toNatClampNeg)))) 32 0 0 ((σ 39 0 0 x1.toNatClampNeg)).toNatClampNeg)) + 1)))) 32 0 0 ((σ 39 0 0 x1.toNatClampNeg)).toNatClampNeg)) ((((6 * ((σ 39 0 0 x1.toNatClampNeg)))) + ((((ks_up (ks_up (ks_up σ 41 0 0 x1.toNatClampNeg ((σ 39 0 0 x1.toNatClampNeg))) 42 0 0 x1.toNatClampNeg ((((ks_up σ 41 0 0 x1.toNatClampNeg ((σ 39 0 0 x1.toNatClampNeg)))) 40 0 0 x1.toNatClampNeg))) 32 0 0 ((σ 39 0 0 x1.toNatClampNeg)).toNatClampNeg ((((((ks_up (ks_up σ 41 0 0 x1.toNatClampNeg ((σ 39 0 0 x1.toNatClampNeg))) 42 0 0 x1.toNatClampNeg ((((ks_up σ 41 0 0 x1.toNatClampNeg ((σ 39 0 0 x1.toNatClampNeg)))) 40 0 0 x1.toNatClampNeg)))) 32 0 0 ((σ 39 0 0 x1.toNatClampNeg)).toNatClampNeg)) + 1)))) 30 0 0 ((σ 39 0 0 x1.toNatClampNeg)).toNatClampNeg)))) else none)) else none) else none) else none) else none) else none) else (if ks_in ((σ 39 0 0 x1.toNatClampNeg)) 16 = true then (if ks_in ((σ 39 0 0 x1.toNatClampNeg)) 16 = true then (if ks_in ((σ 39 0 0 x1.toNatClampNeg)) 16 = true then (if ((((ks_up (ks_up (ks_up σ 41 0 0 x1.toNatClampNeg ((σ 39 0 0 x1.toNatClampNeg))) 42 0 0 x1.toNatClampNeg ((((ks_up σ 41 0 0 x1.toNatClampNeg ((σ 39 0 0 x1.toNatClampNeg)))) 40 0 0 x1.toNatClampNeg))) 31 0 0 ((σ 39 0 0 x1.toNatClampNeg)).toNatClampNeg ((((((ks_up (ks_up σ 41 0 0 x1.toNatClampNeg ((σ 39 0 0 x1.toNatClampNeg))) 42 0 0 x1.toNatClampNeg ((((ks_up σ 41 0 0 x1.toNatClampNeg ((σ 39 0 0 x1.toNatClampNeg)))) 40 0 0 x1.toNatClampNeg)))) 31 0 0 ((σ 39 0 0 x1.toNatClampNeg)).toNatClampNeg)) - 1)))) 31 0 0 ((σ 39 0 0 x1.toNatClampNeg)).toNatClampNeg)) = 0 then ((f_X5_groupOf ((ks_up (ks_up (ks_up σ 41 0 0 x1.toNatClampNeg ((σ 39 0 0 x1.toNatClampNeg))) 42 0 0 x1.toNatClampNeg ((((ks_up σ 41 0 0 x1.toNatClampNeg ((σ 39 0 0 x1.toNatClampNeg)))) 40 0 0 x1.toNatClampNeg))) 31 0 0 ((σ 39 0 0 x1.toNatClampNeg)).toNatClampNeg ((((((ks_up (ks_up σ 41 0 0 x1.toNatClampNeg ((σ 39 0 0 x1.toNatClampNeg))) 42 0 0 x1.toNatClampNeg ((((ks_up σ 41 0 0 x1.toNatClampNeg ((σ 39 0 0 x1.toNatClampNeg)))) 40 0 0 x1.toNatClampNeg)))) 31 0 0 ((σ 39 0 0 x1.toNatClampNeg)).toNatClampNeg)) - 1)))) ((σ 39 0 0 x1.toNatClampNeg))).bind fun (r27, s26) => ((f_X5_leave N s26 x1 r27).bind fun s29 => ((f_X5_goToNext N s29 ((σ 39 0 0 x1.toNatClampNeg))).bind fun s32 => f_X5_goOn_160 N s32 x1 ((σ 39 0 0 x1.toNatClampNeg))))) else f_X5_goOn_160 N ((ks_up (ks_up (ks_up σ 41 0 0 x1.toNatClampNeg ((σ 39 0 0 x1.toNatClampNeg))) 42 0 0 x1.toNatClampNeg ((((ks_up σ 41 0 0 x1.toNatClampNeg ((σ 39 0 0 x1.toNatClampNeg)))) 40 0 0 x1.toNatClampNeg))) 31 0 0 ((σ 39 0 0 x1.toNatClampNeg)).toNatClampNeg ((((((ks_up (ks_up σ 41 0 0 x1.toNatClampNeg ((σ 39 0 0 x1.toNatClampNeg))) 42 0 0 x1.toNatClampNeg ((((ks_up σ 41 0 0 x1.toNatClampNeg ((σ 39 0 0 x1.toNatClampNeg)))) 40 0 0 x1.toNatClampNeg)))) 31 0 0 ((σ 39 0 0 x1.toNatClampNeg)).toNatClampNeg)) - 1)))) x1 ((σ 39 0 0 x1.toNatClampNeg))) else none) else none) else none)) else none)) else none) else some (0, (ks_up (ks_up σ 41 0 0 x1.toNatClampNeg ((σ 39 0 0 x1.toNatClampNeg))) 42 0 0 x1.toNatClampNeg ((((ks_up σ 41 0 0 x1.toNatClampNeg ((σ 39 0 0 x1.toNatClampNeg)))) 40 0 0 x1.toNatClampNeg))))) else none) else none) else none) else none)
theorem in_X5_goOn_5 : ∀ w ∈ wsX50, w ∈ wsX5_goOn := by decide +kernel
set_option maxHeartbeats 4000000 in
set_option maxRecDepth 100000 in
theorem t_X5_goOn_160 {p : Program} {l : Launch} {e : Env} {s : State} {m : MethodId} {args : Array Value} {below : List Frame} {meth : Method} {c : Code} {D : va_G} {cy : Nat → ClassId} {ad : ks_A} {En : Nat → Prop} {n0 : Nat → Prop} {σ0 : ks_S} {o : Int64} {N : Nat} {out : (Int32 × ks_S)} (C : ks_M p s m args meth c D cy ad En (fun k => ks_g k = 1) n0 σ0 o wsX5_goOn cX5_goOn RX5 4 (some .int)) {σ : ks_S} {x1 : Int32} {x2 : Int32}  (hf : f_X5_goOn_160 N σ x1 x2 = some out) {H : Heap} {locs : List Loc} {ls : Array Slot} (hW : ks_W D cy ad En σ o H) (hS : va_S (ks_F n0) s.heap H locs) (hl : lv_has ls 4 [(0, .ref (ad 14 0 0)), (1, .int x1), (2, .int x2)]) : W p l e (ks_Rm 2 0 0 44) s m args below meth c H locs 0 0 (MQ below (ks_Qi D cy ad En n0 o out) args s 0 0 (ks_F n0)) (F0 m 160 ls []) := by
  obtain ⟨hx, hb, hml, hr, hown, hts, hlocks, hG, hU0, hE⟩ := id C
  have hK := hU0.2.2
  unfold f_X5_goOn_160 at hf
  refine lv_aload_n hx hb dX5_goOn_160 rfl (lv_at hl 0 rfl) ?_
  refine va_get (D := D) (ci := 5) (v := .ref (ad 40 0 0)) (C := RX5) (T := TX5) (N := 34) hx hb hts in_X5_goOn_5 hown hK (ks_P1 hW (ks_v14 (i := 0) (j := 0) (hE 14 rfl)) (ks_c14 cy ad o 0 0 _)) 0 rfl rfl 29 (by decide) (hts (.fieldLink RX5 86 "SpinKernelModel" "state" "[I") (by decide +kernel)) (fun _ h => h) rfl dX5_goOn_161 ?_
  refine lv_iload_n hx hb dX5_goOn_164 rfl (lv_at hl 1 rfl) ?_
  obtain ⟨hi14, hf⟩ := ks_guard hf
  refine ks_iald hx hb hK hW (ks_v40 (i := 0) (j := 0) (hE 40 rfl)) (ks_c40 cy ad o 0 0 _) hi14 dX5_goOn_165 ?_
  refine lv_iconst (v := 1) hx hb dX5_goOn_166 (by decide) ?_
  refine lv_icmp_gt (tgt := 200) hx hb dX5_goOn_167 (by decide) (fun c15 => ?_) (fun c15 => ?_)
  · rw [if_pos c15] at hf
    refine lv_iconst (v := 0) hx hb dX5_goOn_200 (by decide) ?_
    exact ks_iret C hf hW hS dX5_goOn_201
  · rw [if_neg c15] at hf
    refine lv_aload_n hx hb dX5_goOn_170 rfl (lv_at hl 0 rfl) ?_
    refine va_get (D := D) (ci := 5) (v := .ref (ad 29 0 0)) (C := RX5) (T := TX5) (N := 34) hx hb hts in_X5_goOn_5 hown hK (ks_P1 hW (ks_v14 (i := 0) (j := 0) (hE 14 rfl)) (ks_c14 cy ad o 0 0 _)) 0 rfl rfl 17 (by decide) (hts (.fieldLink RX5 53 "SpinKernelModel" "done" "[I") (by decide +kernel)) (fun _ h => h) rfl dX5_goOn_171 ?_
    refine lv_iload_n hx hb dX5_goOn_174 rfl (lv_at hl 2 rfl) ?_
    obtain ⟨hi16, hf⟩ := ks_guard hf
    refine ks_iald hx hb hK hW (ks_v29 (i := 0) (j := 0) (hE 29 rfl)) (ks_c29 cy ad o 0 0 _) hi16 dX5_goOn_175 ?_
    refine lv_aload_n hx hb dX5_goOn_176 rfl (lv_at hl 0 rfl) ?_
    refine va_get (D := D) (ci := 5) (v := .ref (ad 19 0 0)) (C := RX5) (T := TX5) (N := 34) hx hb hts in_X5_goOn_5 hown hK (ks_P1 hW (ks_v14 (i := 0) (j := 0) (hE 14 rfl)) (ks_c14 cy ad o 0 0 _)) 0 rfl rfl 5 (by decide) (hts (.fieldLink RX5 22 "SpinKernelModel" "works" "[I") (by decide +kernel)) (fun _ h => h) rfl dX5_goOn_177 ?_
    refine lv_iload_n hx hb dX5_goOn_180 rfl (lv_at hl 2 rfl) ?_
    obtain ⟨hi17, hf⟩ := ks_guard hf
    refine ks_iald hx hb hK hW (ks_v19 (i := 0) (j := 0) (hE 19 rfl)) (ks_c19 cy ad o 0 0 _) hi17 dX5_goOn_181 ?_
    refine lv_icmp_lt (tgt := 200) hx hb dX5_goOn_182 (by decide) (fun c18 => ?_) (fun c18 => ?_)
    · rw [if_pos c18] at hf
      refine lv_iconst (v := 0) hx hb dX5_goOn_200 (by decide) ?_
      exact ks_iret C hf hW hS dX5_goOn_201
    · rw [if_neg c18] at hf
      refine lv_aload_n hx hb dX5_goOn_185 rfl (lv_at hl 0 rfl) ?_
      refine va_get (D := D) (ci := 5) (v := .ref (ad 30 0 0)) (C := RX5) (T := TX5) (N := 34) hx hb hts in_X5_goOn_5 hown hK (ks_P1 hW (ks_v14 (i := 0) (j := 0) (hE 14 rfl)) (ks_c14 cy ad o 0 0 _)) 0 rfl rfl 18 (by decide) (hts (.fieldLink RX5 56 "SpinKernelModel" "nexts" "[I") (by decide +kernel)) (fun _ h => h) rfl dX5_goOn_186 ?_
      refine lv_iload_n hx hb dX5_goOn_189 rfl (lv_at hl 2 rfl) ?_
      obtain ⟨hi19, hf⟩ := ks_guard hf
      refine ks_iald hx hb hK hW (ks_v30 (i := 0) (j := 0) (hE 30 rfl)) (ks_c30 cy ad o 0 0 _) hi19 dX5_goOn_190 ?_
      refine lv_aload_n hx hb dX5_goOn_191 rfl (lv_at hl 0 rfl) ?_
      refine va_get (D := D) (ci := 5) (v := .ref (ad 20 0 0)) (C := RX5) (T := TX5) (N := 34) hx hb hts in_X5_goOn_5 hown hK (ks_P1 hW (ks_v14 (i := 0) (j := 0) (hE 14 rfl)) (ks_c14 cy ad o 0 0 _)) 0 rfl rfl 6 (by decide) (hts (.fieldLink RX5 25 "SpinKernelModel" "counts" "[I") (by decide +kernel)) (fun _ h => h) rfl dX5_goOn_192 ?_
      refine lv_iload_n hx hb dX5_goOn_195 rfl (lv_at hl 2 rfl) ?_
      obtain ⟨hi20, hf⟩ := ks_guard hf
      refine ks_iald hx hb hK hW (ks_v20 (i := 0) (j := 0) (hE 20 rfl)) (ks_c20 cy ad o 0 0 _) hi20 dX5_goOn_196 ?_
      refine lv_icmp_ge (tgt := 202) hx hb dX5_goOn_197 (by decide) (fun c21 => ?_) (fun c21 => ?_)
      · rw [if_pos c21] at hf
        refine lv_aload_n hx hb dX5_goOn_202 rfl (lv_at hl 0 rfl) ?_
        refine lv_iload_n hx hb dX5_goOn_203 rfl (lv_at hl 2 rfl) ?_
        obtain ⟨s23, hc22, hf⟩ := ks_bind hf
        try dsimp only at hf
        refine ks_callv (va_runV (As := [.int x2]) (rest := []) ⟨hx, hb, hml, hown, hts⟩ (m_X5_end l D cy ad En n0 hG hE o hc22) (cwV 1 hts gX5_goOn_X5_end rfl rfl rfl (by decide +kernel) ⟨(Nat.le_of_ble_eq_true rfl), (Nat.le_of_ble_eq_true rfl)⟩) ⟨ks_U.blind, ks_recv hK hW (ks_v14 (i := 0) (j := 0) (hE 14 rfl)) (ks_c14 cy ad o 0 0 _) rfl, fun U hU hWm => ⟨rfl, hU0.now hS hW hWm.alike hU⟩⟩ rfl rfl hl.1 rfl (lv_room (Nat.le_of_ble_eq_true rfl)) dX5_goOn_204 ⟨(Nat.le_of_ble_eq_true rfl), (Nat.le_of_ble_eq_true rfl)⟩) hS (fun H locs hW hS => ?_)
        refine lv_iconst (v := 1) hx hb dX5_goOn_207 (by decide) ?_
        exact ks_iret C hf hW hS dX5_goOn_208
      · rw [if_neg c21] at hf
        refine lv_iconst (v := 0) hx hb dX5_goOn_200 (by decide) ?_
        exact ks_iret C hf hW hS dX5_goOn_201
set_option maxHeartbeats 4000000 in
set_option maxRecDepth 100000 in
theorem t_X5_goOn_122 {p : Program} {l : Launch} {e : Env} {s : State} {m : MethodId} {args : Array Value} {below : List Frame} {meth : Method} {c : Code} {D : va_G} {cy : Nat → ClassId} {ad : ks_A} {En : Nat → Prop} {n0 : Nat → Prop} {σ0 : ks_S} {o : Int64} {N : Nat} {out : (Int32 × ks_S)} (C : ks_M p s m args meth c D cy ad En (fun k => ks_g k = 1) n0 σ0 o wsX5_goOn cX5_goOn RX5 4 (some .int)) {σ : ks_S} {x1 : Int32} {x2 : Int32} {xs0 : Int32} {xs1 : Int32}  (hf : f_X5_goOn_122 N σ x1 x2 xs0 xs1 = some out) {H : Heap} {locs : List Loc} {ls : Array Slot} (hW : ks_W D cy ad En σ o H) (hS : va_S (ks_F n0) s.heap H locs) (hl : lv_has ls 4 [(0, .ref (ad 14 0 0)), (1, .int x1), (2, .int x2)]) : W p l e (ks_Rm 2 0 0 44) s m args below meth c H locs 0 0 (MQ below (ks_Qi D cy ad En n0 o out) args s 0 0 (ks_F n0)) (F0 m 122 ls [.int xs0, .int xs1, .ref (ad 38 0 0)]) := by
  obtain ⟨hx, hb, hml, hr, hown, hts, hlocks, hG, hU0, hE⟩ := id C
  have hK := hU0.2.2
  unfold f_X5_goOn_122 at hf
  obtain ⟨hi41, hf⟩ := ks_guard hf
  refine ks_iast hx hb hK hG hW hS (ks_v38 (i := 0) (j := 0) (hE 38 rfl)) (fun c => ks_c38 cy ad o 0 0 c) hi41 dX5_goOn_122 (fun H locs hW hS => ?_)
  refine lv_goto (tgt := 160) hx hb dX5_goOn_123 (by decide) ?_
  exact t_X5_goOn_160 C  hf hW hS (lv_sub hl [0, 1, 2] rfl)
set_option maxHeartbeats 4000000 in
set_option maxRecDepth 100000 in
theorem t_X5_goOn {p : Program} {l : Launch} {e : Env} {s : State} {m : MethodId} {args : Array Value} {below : List Frame} {meth : Method} {c : Code} {D : va_G} {cy : Nat → ClassId} {ad : ks_A} {En : Nat → Prop} {n0 : Nat → Prop} {σ0 : ks_S} {o : Int64} {N : Nat} {out : (Int32 × ks_S)} (C : ks_M p s m args meth c D cy ad En (fun k => ks_g k = 1) n0 σ0 o wsX5_goOn cX5_goOn RX5 4 (some .int)) {σ : ks_S} {x1 : Int32}  (hf : f_X5_goOn N σ x1 = some out) {H : Heap} {locs : List Loc} {ls : Array Slot} (hW : ks_W D cy ad En σ o H) (hS : va_S (ks_F n0) s.heap H locs) (hl : lv_has ls 4 [(0, .ref (ad 14 0 0)), (1, .int x1)]) : W p l e (ks_Rm 2 0 0 44) s m args below meth c H locs 0 0 (MQ below (ks_Qi D cy ad En n0 o out) args s 0 0 (ks_F n0)) (F0 m 0 ls []) := by
  obtain ⟨hx, hb, hml, hr, hown, hts, hlocks, hG, hU0, hE⟩ := id C
  have hK := hU0.2.2
  unfold f_X5_goOn at hf
  refine lv_aload_n hx hb dX5_goOn_0 rfl (lv_at hl 0 rfl) ?_
  refine va_get (D := D) (ci := 5) (v := .ref (ad 39 0 0)) (C := RX5) (T := TX5) (N := 34) hx hb hts in_X5_goOn_5 hown hK (ks_P1 hW (ks_v14 (i := 0) (j := 0) (hE 14 rfl)) (ks_c14 cy ad o 0 0 _)) 0 rfl rfl 28 (by decide) (hts (.fieldLink RX5 83 "SpinKernelModel" "at" "[I") (by decide +kernel)) (fun _ h => h) rfl dX5_goOn_1 ?_
  refine lv_iload_n hx hb dX5_goOn_4 rfl (lv_at hl 1 rfl) ?_
  obtain ⟨hi1, hf⟩ := ks_guard hf
  refine ks_iald hx hb hK hW (ks_v39 (i := 0) (j := 0) (hE 39 rfl)) (ks_c39 cy ad o 0 0 _) hi1 dX5_goOn_5 ?_
  refine lv_istore_n (lv' := [(2, .int (σ 39 0 0 x1.toNatClampNeg)), (0, .ref (ad 14 0 0)), (1, .int x1)]) hx hb dX5_goOn_6 rfl hl (by decide) rfl (fun ls hl => ?_)
  refine lv_aload_n hx hb dX5_goOn_7 rfl (lv_at hl 1 rfl) ?_
  refine va_get (D := D) (ci := 5) (v := .ref (ad 41 0 0)) (C := RX5) (T := TX5) (N := 34) hx hb hts in_X5_goOn_5 hown hK (ks_P1 hW (ks_v14 (i := 0) (j := 0) (hE 14 rfl)) (ks_c14 cy ad o 0 0 _)) 0 rfl rfl 30 (by decide) (hts (.fieldLink RX5 89 "SpinKernelModel" "lastTask" "[I") (by decide +kernel)) (fun _ h => h) rfl dX5_goOn_8 ?_
  refine lv_iload_n hx hb dX5_goOn_11 rfl (lv_at hl 2 rfl) ?_
  refine lv_iload_n hx hb dX5_goOn_12 rfl (lv_at hl 0 rfl) ?_
  obtain ⟨hi2, hf⟩ := ks_guard hf
  refine ks_iast hx hb hK hG hW hS (ks_v41 (i := 0) (j := 0) (hE 41 rfl)) (fun c => ks_c41 cy ad o 0 0 c) hi2 dX5_goOn_13 (fun H locs hW hS => ?_)
  refine lv_aload_n hx hb dX5_goOn_14 rfl (lv_at hl 1 rfl) ?_
  refine va_get (D := D) (ci := 5) (v := .ref (ad 42 0 0)) (C := RX5) (T := TX5) (N := 34) hx hb hts in_X5_goOn_5 hown hK (ks_P1 hW (ks_v14 (i := 0) (j := 0) (hE 14 rfl)) (ks_c14 cy ad o 0 0 _)) 0 rfl rfl 31 (by decide) (hts (.fieldLink RX5 92 "SpinKernelModel" "lastState" "[I") (by decide +kernel)) (fun _ h => h) rfl dX5_goOn_15 ?_
  refine lv_iload_n hx hb dX5_goOn_18 rfl (lv_at hl 2 rfl) ?_
  refine lv_aload_n hx hb dX5_goOn_19 rfl (lv_at hl 1 rfl) ?_
  refine va_get (D := D) (ci := 5) (v := .ref (ad 40 0 0)) (C := RX5) (T := TX5) (N := 34) hx hb hts in_X5_goOn_5 hown hK (ks_P1 hW (ks_v14 (i := 0) (j := 0) (hE 14 rfl)) (ks_c14 cy ad o 0 0 _)) 0 rfl rfl 29 (by decide) (hts (.fieldLink RX5 86 "SpinKernelModel" "state" "[I") (by decide +kernel)) (fun _ h => h) rfl dX5_goOn_20 ?_
  refine lv_iload_n hx hb dX5_goOn_23 rfl (lv_at hl 2 rfl) ?_
  obtain ⟨hi3, hf⟩ := ks_guard hf
  refine ks_iald hx hb hK hW (ks_v40 (i := 0) (j := 0) (hE 40 rfl)) (ks_c40 cy ad o 0 0 _) hi3 dX5_goOn_24 ?_
  obtain ⟨hi4, hf⟩ := ks_guard hf
  refine ks_iast hx hb hK hG hW hS (ks_v42 (i := 0) (j := 0) (hE 42 rfl)) (fun c => ks_c42 cy ad o 0 0 c) hi4 dX5_goOn_25 (fun H locs hW hS => ?_)
  refine lv_iload_n hx hb dX5_goOn_26 rfl (lv_at hl 0 rfl) ?_
  refine lv_if_ge (tgt := 32) hx hb dX5_goOn_27 (by decide) (fun c5 => ?_) (fun c5 => ?_)
  · rw [if_pos c5] at hf
    refine lv_aload_n hx hb dX5_goOn_32 rfl (lv_at hl 1 rfl) ?_
    refine va_get (D := D) (ci := 5) (v := .ref (ad 40 0 0)) (C := RX5) (T := TX5) (N := 34) hx hb hts in_X5_goOn_5 hown hK (ks_P1 hW (ks_v14 (i := 0) (j := 0) (hE 14 rfl)) (ks_c14 cy ad o 0 0 _)) 0 rfl rfl 29 (by decide) (hts (.fieldLink RX5 86 "SpinKernelModel" "state" "[I") (by decide +kernel)) (fun _ h => h) rfl dX5_goOn_33 ?_
    refine lv_iload_n hx hb dX5_goOn_36 rfl (lv_at hl 2 rfl) ?_
    obtain ⟨hi6, hf⟩ := ks_guard hf
    refine ks_iald hx hb hK hW (ks_v40 (i := 0) (j := 0) (hE 40 rfl)) (ks_c40 cy ad o 0 0 _) hi6 dX5_goOn_37 ?_
    refine lv_iconst (v := 1) hx hb dX5_goOn_38 (by decide) ?_
    refine lv_icmp_ne (tgt := 55) hx hb dX5_goOn_39 (by decide) (fun c7 => ?_) (fun c7 => ?_)
    · rw [if_neg c7] at hf
      refine lv_aload_n hx hb dX5_goOn_55 rfl (lv_at hl 1 rfl) ?_
      refine va_get (D := D) (ci := 5) (v := .ref (ad 40 0 0)) (C := RX5) (T := TX5) (N := 34) hx hb hts in_X5_goOn_5 hown hK (ks_P1 hW (ks_v14 (i := 0) (j := 0) (hE 14 rfl)) (ks_c14 cy ad o 0 0 _)) 0 rfl rfl 29 (by decide) (hts (.fieldLink RX5 86 "SpinKernelModel" "state" "[I") (by decide +kernel)) (fun _ h => h) rfl dX5_goOn_56 ?_
      refine lv_iload_n hx hb dX5_goOn_59 rfl (lv_at hl 2 rfl) ?_
      obtain ⟨hi8, hf⟩ := ks_guard hf
      refine ks_iald hx hb hK hW (ks_v40 (i := 0) (j := 0) (hE 40 rfl)) (ks_c40 cy ad o 0 0 _) hi8 dX5_goOn_60 ?_
      refine lv_iconst (v := 2) hx hb dX5_goOn_61 (by decide) ?_
      refine lv_icmp_ne (tgt := 126) hx hb dX5_goOn_62 (by decide) (fun c9 => ?_) (fun c9 => ?_)
      · rw [if_neg c9] at hf
        refine lv_aload_n hx hb dX5_goOn_126 rfl (lv_at hl 1 rfl) ?_
        refine va_get (D := D) (ci := 5) (v := .ref (ad 31 0 0)) (C := RX5) (T := TX5) (N := 34) hx hb hts in_X5_goOn_5 hown hK (ks_P1 hW (ks_v14 (i := 0) (j := 0) (hE 14 rfl)) (ks_c14 cy ad o 0 0 _)) 0 rfl rfl 19 (by decide) (hts (.fieldLink RX5 59 "SpinKernelModel" "left" "[I") (by decide +kernel)) (fun _ h => h) rfl dX5_goOn_127 ?_
        refine lv_iload_n hx hb dX5_goOn_130 rfl (lv_at hl 0 rfl) ?_
        refine lv_dup2_11 hx hb dX5_goOn_131 rfl rfl ?_
        obtain ⟨hi10, hf⟩ := ks_guard hf
        refine ks_iald hx hb hK hW (ks_v31 (i := 0) (j := 0) (hE 31 rfl)) (ks_c31 cy ad o 0 0 _) hi10 dX5_goOn_132 ?_
        refine lv_iconst (v := 1) hx hb dX5_goOn_133 (by decide) ?_
        refine lv_isub hx hb dX5_goOn_134 ?_
        obtain ⟨hi11, hf⟩ := ks_guard hf
        refine ks_iast hx hb hK hG hW hS (ks_v31 (i := 0) (j := 0) (hE 31 rfl)) (fun c => ks_c31 cy ad o 0 0 c) hi11 dX5_goOn_135 (fun H locs hW hS => ?_)
        refine lv_aload_n hx hb dX5_goOn_136 rfl (lv_at hl 1 rfl) ?_
        refine va_get (D := D) (ci := 5) (v := .ref (ad 31 0 0)) (C := RX5) (T := TX5) (N := 34) hx hb hts in_X5_goOn_5 hown hK (ks_P1 hW (ks_v14 (i := 0) (j := 0) (hE 14 rfl)) (ks_c14 cy ad o 0 0 _)) 0 rfl rfl 19 (by decide) (hts (.fieldLink RX5 59 "SpinKernelModel" "left" "[I") (by decide +kernel)) (fun _ h => h) rfl dX5_goOn_137 ?_
        refine lv_iload_n hx hb dX5_goOn_140 rfl (lv_at hl 0 rfl) ?_
        obtain ⟨hi12, hf⟩ := ks_guard hf
        refine ks_iald hx hb hK hW (ks_v31 (i := 0) (j := 0) (hE 31 rfl)) (ks_c31 cy ad o 0 0 _) hi12 dX5_goOn_141 ?_
        refine lv_if_ne (tgt := 160) hx hb dX5_goOn_142 (by decide) (fun c13 => ?_) (fun c13 => ?_)
        · rw [if_neg c13] at hf
          exact t_X5_goOn_160 C  hf hW hS (lv_sub hl [1, 2, 0] rfl)
        · rw [if_pos c13] at hf
          refine lv_aload_n hx hb dX5_goOn_145 rfl (lv_at hl 1 rfl) ?_
          refine lv_iload_n hx hb dX5_goOn_146 rfl (lv_at hl 2 rfl) ?_
          refine lv_aload_n hx hb dX5_goOn_147 rfl (lv_at hl 1 rfl) ?_
          refine lv_iload_n hx hb dX5_goOn_148 rfl (lv_at hl 0 rfl) ?_
          obtain ⟨⟨r27, s26⟩, hc25, hf⟩ := ks_bind hf
          try dsimp only at hf
          refine ks_calli (va_runV (As := [.int (σ 39 0 0 x1.toNatClampNeg)]) (rest := [.int x1, .ref (ad 14 0 0)]) ⟨hx, hb, hml, hown, hts⟩ (m_X5_groupOf l D cy ad En n0 hG hE o hc25) (cwV 1 hts gX5_goOn_X5_groupOf rfl rfl rfl (by decide +kernel) ⟨(Nat.le_of_ble_eq_true rfl), (Nat.le_of_ble_eq_true rfl)⟩) ⟨ks_U.blind, ks_recv hK hW (ks_v14 (i := 0) (j := 0) (hE 14 rfl)) (ks_c14 cy ad o 0 0 _) rfl, fun U hU hWm => ⟨rfl, hU0.now hS hW hWm.alike hU⟩⟩ rfl rfl hl.1 rfl (lv_room (Nat.le_of_ble_eq_true rfl)) dX5_goOn_149 ⟨(Nat.le_of_ble_eq_true rfl), (Nat.le_of_ble_eq_true rfl)⟩) hS (fun H locs hW hS => ?_)
          obtain ⟨s29, hc28, hf⟩ := ks_bind hf
          try dsimp only at hf
          refine ks_callv (va_runV (As := [.int x1, .int r27]) (rest := []) ⟨hx, hb, hml, hown, hts⟩ (m_X5_leave l D cy ad En n0 hG hE o hc28) (cwV 2 hts gX5_goOn_X5_leave rfl rfl rfl (by decide +kernel) ⟨(Nat.le_of_ble_eq_true rfl), (Nat.le_of_ble_eq_true rfl)⟩) ⟨ks_U.blind, ks_recv hK hW (ks_v14 (i := 0) (j := 0) (hE 14 rfl)) (ks_c14 cy ad o 0 0 _) rfl, fun U hU hWm => ⟨rfl, hU0.now hS hW hWm.alike hU⟩⟩ rfl rfl hl.1 rfl (lv_room (Nat.le_of_ble_eq_true rfl)) dX5_goOn_152 ⟨(Nat.le_of_ble_eq_true rfl), (Nat.le_of_ble_eq_true rfl)⟩) hS (fun H locs hW hS => ?_)
          refine lv_aload_n hx hb dX5_goOn_155 rfl (lv_at hl 1 rfl) ?_
          refine lv_iload_n hx hb dX5_goOn_156 rfl (lv_at hl 0 rfl) ?_
          obtain ⟨s32, hc31, hf⟩ := ks_bind hf
          try dsimp only at hf
          refine ks_callv (va_runV (As := [.int (σ 39 0 0 x1.toNatClampNeg)]) (rest := []) ⟨hx, hb, hml, hown, hts⟩ (m_X5_goToNext l D cy ad En n0 hG hE o hc31) (cwV 1 hts gX5_goOn_X5_goToNext rfl rfl rfl (by decide +kernel) ⟨(Nat.le_of_ble_eq_true rfl), (Nat.le_of_ble_eq_true rfl)⟩) ⟨ks_U.blind, ks_recv hK hW (ks_v14 (i := 0) (j := 0) (hE 14 rfl)) (ks_c14 cy ad o 0 0 _) rfl, fun U hU hWm => ⟨rfl, hU0.now hS hW hWm.alike hU⟩⟩ rfl rfl hl.1 rfl (lv_room (Nat.le_of_ble_eq_true rfl)) dX5_goOn_157 ⟨(Nat.le_of_ble_eq_true rfl), (Nat.le_of_ble_eq_true rfl)⟩) hS (fun H locs hW hS => ?_)
          exact t_X5_goOn_160 C  hf hW hS (lv_sub hl [1, 2, 0] rfl)
      · rw [if_pos c9] at hf
        refine lv_aload_n hx hb dX5_goOn_65 rfl (lv_at hl 1 rfl) ?_
        refine va_get (D := D) (ci := 5) (v := .ref (ad 32 0 0)) (C := RX5) (T := TX5) (N := 34) hx hb hts in_X5_goOn_5 hown hK (ks_P1 hW (ks_v14 (i := 0) (j := 0) (hE 14 rfl)) (ks_c14 cy ad o 0 0 _)) 0 rfl rfl 20 (by decide) (hts (.fieldLink RX5 62 "SpinKernelModel" "spinning" "[I") (by decide +kernel)) (fun _ h => h) rfl dX5_goOn_66 ?_
        refine lv_iload_n hx hb dX5_goOn_69 rfl (lv_at hl 0 rfl) ?_
        refine lv_dup2_11 hx hb dX5_goOn_70 rfl rfl ?_
        obtain ⟨hi34, hf⟩ := ks_guard hf
        refine ks_iald hx hb hK hW (ks_v32 (i := 0) (j := 0) (hE 32 rfl)) (ks_c32 cy ad o 0 0 _) hi34 dX5_goOn_71 ?_
        refine lv_iconst (v := 1) hx hb dX5_goOn_72 (by decide) ?_
        refine lv_iadd hx hb dX5_goOn_73 ?_
        obtain ⟨hi35, hf⟩ := ks_guard hf
        refine ks_iast hx hb hK hG hW hS (ks_v32 (i := 0) (j := 0) (hE 32 rfl)) (fun c => ks_c32 cy ad o 0 0 c) hi35 dX5_goOn_74 (fun H locs hW hS => ?_)
        refine lv_bipush (v := 6) hx hb dX5_goOn_75 (by decide) ?_
        refine lv_iload_n hx hb dX5_goOn_77 rfl (lv_at hl 0 rfl) ?_
        refine lv_imul hx hb dX5_goOn_78 ?_
        refine lv_aload_n hx hb dX5_goOn_79 rfl (lv_at hl 1 rfl) ?_
        refine va_get (D := D) (ci := 5) (v := .ref (ad 30 0 0)) (C := RX5) (T := TX5) (N := 34) hx hb hts in_X5_goOn_5 hown hK (ks_P1 hW (ks_v14 (i := 0) (j := 0) (hE 14 rfl)) (ks_c14 cy ad o 0 0 _)) 0 rfl rfl 18 (by decide) (hts (.fieldLink RX5 56 "SpinKernelModel" "nexts" "[I") (by decide +kernel)) (fun _ h => h) rfl dX5_goOn_80 ?_
        refine lv_iload_n hx hb dX5_goOn_83 rfl (lv_at hl 0 rfl) ?_
        obtain ⟨hi36, hf⟩ := ks_guard hf
        refine ks_iald hx hb hK hW (ks_v30 (i := 0) (j := 0) (hE 30 rfl)) (ks_c30 cy ad o 0 0 _) hi36 dX5_goOn_84 ?_
        refine lv_iadd hx hb dX5_goOn_85 ?_
        refine lv_istore_n (lv' := [(3, .int (((6 * ((σ 39 0 0 x1.toNatClampNeg)))) + ((((ks_up (ks_up (ks_up σ 41 0 0 x1.toNatClampNeg ((σ 39 0 0 x1.toNatClampNeg))) 42 0 0 x1.toNatClampNeg ((((ks_up σ 41 0 0 x1.toNatClampNeg ((σ 39 0 0 x1.toNatClampNeg)))) 40 0 0 x1.toNatClampNeg))) 32 0 0 ((σ 39 0 0 x1.toNatClampNeg)).toNatClampNeg ((((((ks_up (ks_up σ 41 0 0 x1.toNatClampNeg ((σ 39 0 0 x1.toNatClampNeg))) 42 0 0 x1.toNatClampNeg ((((ks_up σ 41 0 0 x1.toNatClampNeg ((σ 39 0 0 x1.toNatClampNeg)))) 40 0 0 x1.toNatClampNeg)))) 32 0 0 ((σ 39 0 0 x1.toNatClampNeg)).toNatClampNeg)) + 1)))) 30 0 0 ((σ 39 0 0 x1.toNatClampNeg)).toNatClampNeg)))), (2, .int (σ 39 0 0 x1.toNatClampNeg)), (0, .ref (ad 14 0 0)), (1, .int x1)]) hx hb dX5_goOn_86 rfl hl (by decide) rfl (fun ls hl => ?_)
        refine lv_aload_n hx hb dX5_goOn_87 rfl (lv_at hl 2 rfl) ?_
        refine va_get (D := D) (ci := 5) (v := .ref (ad 38 0 0)) (C := RX5) (T := TX5) (N := 34) hx hb hts in_X5_goOn_5 hown hK (ks_P1 hW (ks_v14 (i := 0) (j := 0) (hE 14 rfl)) (ks_c14 cy ad o 0 0 _)) 0 rfl rfl 26 (by decide) (hts (.fieldLink RX5 80 "SpinKernelModel" "spuns" "[I") (by decide +kernel)) (fun _ h => h) rfl dX5_goOn_88 ?_
        refine lv_iload_n hx hb dX5_goOn_91 rfl (lv_at hl 0 rfl) ?_
        refine lv_aload_n hx hb dX5_goOn_92 rfl (lv_at hl 2 rfl) ?_
        refine va_get (D := D) (ci := 5) (v := .ref (ad 32 0 0)) (C := RX5) (T := TX5) (N := 34) hx hb hts in_X5_goOn_5 hown hK (ks_P1 hW (ks_v14 (i := 0) (j := 0) (hE 14 rfl)) (ks_c14 cy ad o 0 0 _)) 0 rfl rfl 20 (by decide) (hts (.fieldLink RX5 62 "SpinKernelModel" "spinning" "[I") (by decide +kernel)) (fun _ h => h) rfl dX5_goOn_93 ?_
        refine lv_iload_n hx hb dX5_goOn_96 rfl (lv_at hl 1 rfl) ?_
        obtain ⟨hi37, hf⟩ := ks_guard hf
        refine ks_iald hx hb hK hW (ks_v32 (i := 0) (j := 0) (hE 32 rfl)) (ks_c32 cy ad o 0 0 _) hi37 dX5_goOn_97 ?_
        refine lv_aload_n hx hb dX5_goOn_98 rfl (lv_at hl 2 rfl) ?_
        refine va_get (D := D) (ci := 5) (v := .ref (ad 38 0 0)) (C := RX5) (T := TX5) (N := 34) hx hb hts in_X5_goOn_5 hown hK (ks_P1 hW (ks_v14 (i := 0) (j := 0) (hE 14 rfl)) (ks_c14 cy ad o 0 0 _)) 0 rfl rfl 26 (by decide) (hts (.fieldLink RX5 80 "SpinKernelModel" "spuns" "[I") (by decide +kernel)) (fun _ h => h) rfl dX5_goOn_99 ?_
        refine lv_iload_n hx hb dX5_goOn_102 rfl (lv_at hl 0 rfl) ?_
        obtain ⟨hi38, hf⟩ := ks_guard hf
        refine ks_iald hx hb hK hW (ks_v38 (i := 0) (j := 0) (hE 38 rfl)) (ks_c38 cy ad o 0 0 _) hi38 dX5_goOn_103 ?_
        refine lv_icmp_le (tgt := 116) hx hb dX5_goOn_104 (by decide) (fun c39 => ?_) (fun c39 => ?_)
        · rw [if_pos c39] at hf
          refine lv_aload_n hx hb dX5_goOn_116 rfl (lv_at hl 2 rfl) ?_
          refine va_get (D := D) (ci := 5) (v := .ref (ad 38 0 0)) (C := RX5) (T := TX5) (N := 34) hx hb hts in_X5_goOn_5 hown hK (ks_P1 hW (ks_v14 (i := 0) (j := 0) (hE 14 rfl)) (ks_c14 cy ad o 0 0 _)) 0 rfl rfl 26 (by decide) (hts (.fieldLink RX5 80 "SpinKernelModel" "spuns" "[I") (by decide +kernel)) (fun _ h => h) rfl dX5_goOn_117 ?_
          refine lv_iload_n hx hb dX5_goOn_120 rfl (lv_at hl 0 rfl) ?_
          obtain ⟨hi40, hf⟩ := ks_guard hf
          refine ks_iald hx hb hK hW (ks_v38 (i := 0) (j := 0) (hE 38 rfl)) (ks_c38 cy ad o 0 0 _) hi40 dX5_goOn_121 ?_
          exact t_X5_goOn_122 C  hf hW hS (lv_sub hl [2, 3, 1] rfl)
        · rw [if_neg c39] at hf
          refine lv_aload_n hx hb dX5_goOn_107 rfl (lv_at hl 2 rfl) ?_
          refine va_get (D := D) (ci := 5) (v := .ref (ad 32 0 0)) (C := RX5) (T := TX5) (N := 34) hx hb hts in_X5_goOn_5 hown hK (ks_P1 hW (ks_v14 (i := 0) (j := 0) (hE 14 rfl)) (ks_c14 cy ad o 0 0 _)) 0 rfl rfl 20 (by decide) (hts (.fieldLink RX5 62 "SpinKernelModel" "spinning" "[I") (by decide +kernel)) (fun _ h => h) rfl dX5_goOn_108 ?_
          refine lv_iload_n hx hb dX5_goOn_111 rfl (lv_at hl 1 rfl) ?_
          obtain ⟨hi42, hf⟩ := ks_guard hf
          refine ks_iald hx hb hK hW (ks_v32 (i := 0) (j := 0) (hE 32 rfl)) (ks_c32 cy ad o 0 0 _) hi42 dX5_goOn_112 ?_
          refine lv_goto (tgt := 122) hx hb dX5_goOn_113 (by decide) ?_
          exact t_X5_goOn_122 C  hf hW hS (lv_sub hl [2, 3, 1] rfl)
    · rw [if_pos c7] at hf
      refine lv_aload_n hx hb dX5_goOn_42 rfl (lv_at hl 1 rfl) ?_
      refine va_get (D := D) (ci := 5) (v := .ref (ad 29 0 0)) (C := RX5) (T := TX5) (N := 34) hx hb hts in_X5_goOn_5 hown hK (ks_P1 hW (ks_v14 (i := 0) (j := 0) (hE 14 rfl)) (ks_c14 cy ad o 0 0 _)) 0 rfl rfl 17 (by decide) (hts (.fieldLink RX5 53 "SpinKernelModel" "done" "[I") (by decide +kernel)) (fun _ h => h) rfl dX5_goOn_43 ?_
      refine lv_iload_n hx hb dX5_goOn_46 rfl (lv_at hl 0 rfl) ?_
      refine lv_dup2_11 hx hb dX5_goOn_47 rfl rfl ?_
      obtain ⟨hi43, hf⟩ := ks_guard hf
      refine ks_iald hx hb hK hW (ks_v29 (i := 0) (j := 0) (hE 29 rfl)) (ks_c29 cy ad o 0 0 _) hi43 dX5_goOn_48 ?_
      refine lv_iconst (v := 1) hx hb dX5_goOn_49 (by decide) ?_
      refine lv_iadd hx hb dX5_goOn_50 ?_
      obtain ⟨hi44, hf⟩ := ks_guard hf
      refine ks_iast hx hb hK hG hW hS (ks_v29 (i := 0) (j := 0) (hE 29 rfl)) (fun c => ks_c29 cy ad o 0 0 c) hi44 dX5_goOn_51 (fun H locs hW hS => ?_)
      refine lv_goto (tgt := 160) hx hb dX5_goOn_52 (by decide) ?_
      exact t_X5_goOn_160 C  hf hW hS (lv_sub hl [1, 2, 0] rfl)
  · rw [if_neg c5] at hf
    refine lv_iconst (v := 0) hx hb dX5_goOn_30 (by decide) ?_
    exact ks_iret C hf hW hS dX5_goOn_31
set_option maxHeartbeats 4000000 in
set_option maxRecDepth 100000 in
theorem m_X5_goOn (l : Launch) (D : va_G) (cy : Nat → ClassId) (ad : ks_A) (En : Nat → Prop) (n0 : Nat → Prop) (hG : ks_G ad En n0) (hE : ∀ k, ks_g k = 1 → En k) (o : Int64) {N : Nat} {σ : ks_S} {x1 : Int32}  {out : (Int32 × ks_S)} (hf : f_X5_goOn N σ x1 = some out) : Met l yX5_goOn wsX5_goOn (ks_Rm 2 0 0 44) (va_Pc [.ref (ad 14 0 0), .int x1] (ks_U D cy ad En n0 σ o)) (ks_Qi D cy ad En n0 o out) 0 0 (ks_F n0) := by
  refine Met.ofW (cc := cX5_goOn) (maxL := 4) (ret := some .int) (by decide) rfl ?_
  intro p e s m args below meth c s₁ B hml hv
  obtain ⟨rfl, hU⟩ := hv
  have hl := lv_entry ([.ref (ad 14 0 0), .int x1]) (n := 4) (Nat.le_of_ble_eq_true rfl)
  rw [lg_entry_eq]
  generalize (lg_sl ([.ref (ad 14 0 0), .int x1]) ++ List.replicate (4 - (lg_sl ([.ref (ad 14 0 0), .int x1])).length) Slot.unset).toArray = ls at hl ⊢
  exact t_X5_goOn ⟨B.exec, B.bytes, hml, B.returns, findClass_of_methodNamed B.named, atoms_spec (ws := wsX5_goOn) B.pre, B.notSynchronized, hG, hU, hE⟩  hf hU.2.1 va_S.rf hl

/-! SpinKernelModel.tick(I)I -/
def f_X5_tick_166 (N : Nat) (k41 : ks_S → Int32 → Int32 → Int32 → Option (Int32 × ks_S)) (k49 : ks_S → Int32 → Int32 → Int32 → Int32 → Option (Int32 × ks_S)) (k70 : ks_S → Int32 → Int32 → Int32 → Int32 → Option (Int32 × ks_S)) (k111 : ks_S → Int32 → Int32 → Int32 → Int32 → Option (Int32 × ks_S)) : Nat → ks_S → Int32 → Int32 → Int32 → Int32 → Int32 → Option (Int32 × ks_S)
  | 0, _, _, _, _, _, _ => none
  | n + 1, σ, x1, x2, x3, x4, x5 => (if 4 ≤ x5 then k41 ((ks_up σ 14 0 0 13 ((((((((σ 14 0 0 13)) + x1)) - x3)) - 1)))) x1 x2 ((x1 + 1)) else (if x4 = 0 then k41 ((ks_up σ 14 0 0 13 ((((((((σ 14 0 0 13)) + x1)) - x3)) - 1)))) x1 x2 ((x1 + 1)) else (if ks_in x5 4 = true then (if ks_in x5 4 = true then (if ks_in x5 4 = true then (if ks_in x5 4 = true then f_X5_tick_166 N k41 k49 k70 k111 n ((ks_up (ks_up (ks_up (ks_up σ 41 0 0 x5.toNatClampNeg ((-1))) 42 0 0 x5.toNatClampNeg 0) 39 0 0 x5.toNatClampNeg ((-1))) 40 0 0 x5.toNatClampNeg 0)) x1 x2 x3 x4 ((x5 + 1)) else none) else none) else none) else none)))
def f_X5_tick_111 (N : Nat) (k41 : ks_S → Int32 → Int32 → Int32 → Option (Int32 × ks_S)) (k49 : ks_S → Int32 → Int32 → Int32 → Int32 → Option (Int32 × ks_S)) (k70 : ks_S → Int32 → Int32 → Int32 → Int32 → Option (Int32 × ks_S)) : Nat → ks_S → Int32 → Int32 → Int32 → Int32 → Option (Int32 × ks_S)
  | 0, _, _, _, _, _ => none
  | n + 1, σ, x1, x2, x3, x4 => (if 4 ≤ x4 then ((f_X5_hasOpen N ((ks_up σ 14 0 0 13 ((((σ 14 0 0 13)) + 1))))).bind fun (r16, s15) => (if r16 = 0 then (if x1 ≤ ((x3 + 1)) then f_X5_tick_166 N k41 k49 k70 (f_X5_tick_111 N k41 k49 k70 n) N s15 x1 x2 x3 0 0 else f_X5_tick_166 N k41 k49 k70 (f_X5_tick_111 N k41 k49 k70 n) N s15 x1 x2 x3 1 0) else k41 s15 x1 x2 ((x3 + 1)))) else ((f_X5_goOn N σ x4).bind fun (r27, s26) => f_X5_tick_111 N k41 k49 k70 n s26 x1 ((x2 + r27)) x3 ((x4 + 1))))
def f_X5_tick_70 (N : Nat) (k41 : ks_S → Int32 → Int32 → Int32 → Option (Int32 × ks_S)) (k49 : ks_S → Int32 → Int32 → Int32 → Int32 → Option (Int32 × ks_S)) : Nat → ks_S → Int32 → Int32 → Int32 → Int32 → Option (Int32 × ks_S)
  | 0, _, _, _, _, _ => none
  | n + 1, σ, x1, x2, x3, x4 => (if 8 ≤ x4 then f_X5_tick_111 N k41 k49 (f_X5_tick_70 N k41 k49 n) N σ x1 x2 x3 0 else (if ks_in x4 8 = true then (if ((σ 44 0 0 x4.toNatClampNeg)) ≤ 0 then f_X5_tick_70 N k41 k49 n σ x1 x2 x3 ((x4 + 1)) else (if ks_in ((4 * x4)) 32 = true then (if ks_in ((σ 43 0 0 ((4 * x4)).toNatClampNeg)) 4 = true then f_X5_tick_70 N k41 k49 n ((ks_up σ 40 0 0 ((σ 43 0 0 ((4 * x4)).toNatClampNeg)).toNatClampNeg 3)) x1 x2 x3 ((x4 + 1)) else none) else none)) else none))
def f_X5_tick_49 (N : Nat) (k41 : ks_S → Int32 → Int32 → Int32 → Option (Int32 × ks_S)) : Nat → ks_S → Int32 → Int32 → Int32 → Int32 → Option (Int32 × ks_S)
  | 0, _, _, _, _, _ => none
  | n + 1, σ, x1, x2, x3, x4 => (if 4 ≤ x4 then f_X5_tick_70 N k41 (f_X5_tick_49 N k41 n) N σ x1 x2 x3 0 else ((f_X5_choose N σ x4).bind fun s33 => f_X5_tick_49 N k41 n s33 x1 x2 x3 ((x4 + 1))))
def f_X5_tick_41 (N : Nat) : Nat → ks_S → Int32 → Int32 → Int32 → Option (Int32 × ks_S)
  | 0, _, _, _, _ => none
  | n + 1, σ, x1, x2, x3 => (if x1 ≤ x3 then some (x2, σ) else f_X5_tick_49 N (f_X5_tick_41 N n) N σ x1 x2 x3 0)
def f_X5_tick_13 (N : Nat) (σ : ks_S) (x1 : Int32) (xs0 : Int32) : Option (Int32 × ks_S) :=
  ((f_X5_within σ x1 1 100000).bind fun (r4, s3) => (if r4 = 0 then ((f_X5_refused s3 xs0 1 0).bind fun (r37, s36) => (if r37 = 0 then f_X5_tick_41 N N s36 x1 0 0 else some (0, s36))) else ((f_X5_refused s3 xs0 0 0).bind fun (r8, s7) => (if r8 = 0 then f_X5_tick_41 N N s7 x1 0 0 else some (0, s7)))))
def f_X5_tick (N : Nat) (σ : ks_S) (x1 : Int32) : Option (Int32 × ks_S) :=
  (if ((σ 14 0 0 12)) = 0 then f_X5_tick_13 N σ x1 1 else f_X5_tick_13 N σ x1 0)
theorem in_X5_tick_5 : ∀ w ∈ wsX50, w ∈ wsX5_tick := by decide +kernel
set_option maxHeartbeats 4000000 in
set_option maxRecDepth 100000 in
theorem t_X5_tick_166 {p : Program} {l : Launch} {e : Env} {s : State} {m : MethodId} {args : Array Value} {below : List Frame} {meth : Method} {c : Code} {D : va_G} {cy : Nat → ClassId} {ad : ks_A} {En : Nat → Prop} {n0 : Nat → Prop} {σ0 : ks_S} {o : Int64} {N : Nat} {out : (Int32 × ks_S)} (C : ks_M p s m args meth c D cy ad En (fun k => ks_g k = 1) n0 σ0 o wsX5_tick cX5_tick RX5 6 (some .int)) {k41 : ks_S → Int32 → Int32 → Int32 → Option (Int32 × ks_S)} {k49 : ks_S → Int32 → Int32 → Int32 → Int32 → Option (Int32 × ks_S)} {k70 : ks_S → Int32 → Int32 → Int32 → Int32 → Option (Int32 × ks_S)} {k111 : ks_S → Int32 → Int32 → Int32 → Int32 → Option (Int32 × ks_S)} (hk41 : ∀ (σ : ks_S) (x1 : Int32) (x2 : Int32) (x3 : Int32), k41 σ x1 x2 x3 = some out → ∀ {H : Heap} {locs : List Loc} {ls : Array Slot}, ks_W D cy ad En σ o H → va_S (ks_F n0) s.heap H locs → lv_has ls 6 [(0, .ref (ad 14 0 0)), (1, .int x1), (2, .int x2), (3, .int x3)] → W p l e (ks_Rm 3 0 0 67) s m args below meth c H locs 0 0 (MQ below (ks_Qi D cy ad En n0 o out) args s 0 0 (ks_F n0)) (F0 m 41 ls [])) (hk49 : ∀ (σ : ks_S) (x1 : Int32) (x2 : Int32) (x3 : Int32) (x4 : Int32), k49 σ x1 x2 x3 x4 = some out → ∀ {H : Heap} {locs : List Loc} {ls : Array Slot}, ks_W D cy ad En σ o H → va_S (ks_F n0) s.heap H locs → lv_has ls 6 [(0, .ref (ad 14 0 0)), (1, .int x1), (2, .int x2), (3, .int x3), (4, .int x4)] → W p l e (ks_Rm 3 0 0 67) s m args below meth c H locs 0 0 (MQ below (ks_Qi D cy ad En n0 o out) args s 0 0 (ks_F n0)) (F0 m 49 ls [])) (hk70 : ∀ (σ : ks_S) (x1 : Int32) (x2 : Int32) (x3 : Int32) (x4 : Int32), k70 σ x1 x2 x3 x4 = some out → ∀ {H : Heap} {locs : List Loc} {ls : Array Slot}, ks_W D cy ad En σ o H → va_S (ks_F n0) s.heap H locs → lv_has ls 6 [(0, .ref (ad 14 0 0)), (1, .int x1), (2, .int x2), (3, .int x3), (4, .int x4)] → W p l e (ks_Rm 3 0 0 67) s m args below meth c H locs 0 0 (MQ below (ks_Qi D cy ad En n0 o out) args s 0 0 (ks_F n0)) (F0 m 70 ls [])) (hk111 : ∀ (σ : ks_S) (x1 : Int32) (x2 : Int32) (x3 : Int32) (x4 : Int32), k111 σ x1 x2 x3 x4 = some out → ∀ {H : Heap} {locs : List Loc} {ls : Array Slot}, ks_W D cy ad En σ o H → va_S (ks_F n0) s.heap H locs → lv_has ls 6 [(0, .ref (ad 14 0 0)), (1, .int x1), (2, .int x2), (3, .int x3), (4, .int x4)] → W p l e (ks_Rm 3 0 0 67) s m args below meth c H locs 0 0 (MQ below (ks_Qi D cy ad En n0 o out) args s 0 0 (ks_F n0)) (F0 m 111 ls [])) : ∀ (n : Nat) (σ : ks_S) (x1 : Int32) (x2 : Int32) (x3 : Int32) (x4 : Int32) (x5 : Int32), f_X5_tick_166 N k41 k49 k70 k111 n σ x1 x2 x3 x4 x5 = some out → ∀ {H : Heap} {locs : List Loc} {ls : Array Slot}, ks_W D cy ad En σ o H → va_S (ks_F n0) s.heap H locs → lv_has ls 6 [(0, .ref (ad 14 0 0)), (1, .int x1), (2, .int x2), (3, .int x3), (4, .int x4), (5, .int x5)] → W p l e (ks_Rm 3 0 0 67) s m args below meth c H locs 0 0 (MQ below (ks_Qi D cy ad En n0 o out) args s 0 0 (ks_F n0)) (F0 m 166 ls []) := by
  obtain ⟨hx, hb, hml, hr, hown, hts, hlocks, hG, hU0, hE⟩ := id C
  have hK := hU0.2.2
  intro n
  induction n with
  | zero => intro σ x1 x2 x3 x4 x5; intro  hf; exact absurd hf (by simp [f_X5_tick_166])
  | succ n hk166 =>
    intro σ x1 x2 x3 x4 x5  hf H locs ls hW hS hl
    rw [f_X5_tick_166] at hf
    refine lv_iload hx hb dX5_tick_166 (lv_at hl 5 rfl) ?_
    refine lv_iconst (v := 4) hx hb dX5_tick_168 (by decide) ?_
    refine lv_icmp_ge (tgt := 215) hx hb dX5_tick_169 (by decide) (fun c19 => ?_) (fun c19 => ?_)
    · rw [if_pos c19] at hf
      refine lv_aload_n hx hb dX5_tick_215 rfl (lv_at hl 0 rfl) ?_
      refine lv_aload_n hx hb dX5_tick_216 rfl (lv_at hl 0 rfl) ?_
      refine va_get (D := D) (ci := 5) (v := .int (σ 14 0 0 13)) (C := RX5) (T := TX5) (N := 34) hx hb hts in_X5_tick_5 hown hK (ks_P1 hW (ks_v14 (i := 0) (j := 0) (hE 14 rfl)) (ks_c14 cy ad o 0 0 _)) 0 rfl rfl 13 (by decide) (hts (.fieldLink RX5 158 "SpinKernelModel" "now" "I") (by decide +kernel)) (fun _ h => h) rfl dX5_tick_217 ?_
      refine lv_iload_n hx hb dX5_tick_220 rfl (lv_at hl 1 rfl) ?_
      refine lv_iadd hx hb dX5_tick_221 ?_
      refine lv_iload_n hx hb dX5_tick_222 rfl (lv_at hl 3 rfl) ?_
      refine lv_isub hx hb dX5_tick_223 ?_
      refine lv_iconst (v := 1) hx hb dX5_tick_224 (by decide) ?_
      refine lv_isub hx hb dX5_tick_225 ?_
      refine ks_put (D := D) (ci := 5) (C := RX5) (T := TX5) (N := 34) hx hb hts in_X5_tick_5 tyX5 tyX5_ok nmX5 hown hK hG hW hS (ks_v14 (i := 0) (j := 0) (hE 14 rfl)) 13 (v := (((((((σ 14 0 0 13)) + x1)) - x3)) - 1)) (ks_c14 cy ad o 0 0 _) (ks_c14s13 cy ad o 0 0 _ _) rfl (by decide) (hts (.fieldLink RX5 158 "SpinKernelModel" "now" "I") (by decide +kernel)) rfl (ty := .int) (by decide +kernel) rfl rfl (Nat.le_of_ble_eq_true rfl) dX5_tick_226 (fun H locs hW hS => ?_)
      refine lv_iload_n hx hb dX5_tick_229 rfl (lv_at hl 1 rfl) ?_
      refine lv_istore_n (lv' := [(3, .int x1), (0, .ref (ad 14 0 0)), (1, .int x1), (2, .int x2), (4, .int x4), (5, .int x5)]) hx hb dX5_tick_230 rfl hl (by decide) rfl (fun ls hl => ?_)
      refine lv_iinc (v := (x1 + 1)) (lv' := [(3, .int (x1 + 1)), (0, .ref (ad 14 0 0)), (1, .int x1), (2, .int x2), (4, .int x4), (5, .int x5)]) hx hb dX5_tick_231 hl (k := 0) rfl rfl (by decide) rfl (fun ls hl => ?_)
      refine lv_goto (tgt := 41) hx hb dX5_tick_234 (by decide) ?_
      exact hk41 _ _ _ _ hf hW hS (lv_sub hl [1, 2, 3, 0] rfl)
    · rw [if_neg c19] at hf
      refine lv_iload hx hb dX5_tick_172 (lv_at hl 4 rfl) ?_
      refine lv_if_eq (tgt := 215) hx hb dX5_tick_174 (by decide) (fun c20 => ?_) (fun c20 => ?_)
      · rw [if_pos c20] at hf
        refine lv_aload_n hx hb dX5_tick_215 rfl (lv_at hl 0 rfl) ?_
        refine lv_aload_n hx hb dX5_tick_216 rfl (lv_at hl 0 rfl) ?_
        refine va_get (D := D) (ci := 5) (v := .int (σ 14 0 0 13)) (C := RX5) (T := TX5) (N := 34) hx hb hts in_X5_tick_5 hown hK (ks_P1 hW (ks_v14 (i := 0) (j := 0) (hE 14 rfl)) (ks_c14 cy ad o 0 0 _)) 0 rfl rfl 13 (by decide) (hts (.fieldLink RX5 158 "SpinKernelModel" "now" "I") (by decide +kernel)) (fun _ h => h) rfl dX5_tick_217 ?_
        refine lv_iload_n hx hb dX5_tick_220 rfl (lv_at hl 1 rfl) ?_
        refine lv_iadd hx hb dX5_tick_221 ?_
        refine lv_iload_n hx hb dX5_tick_222 rfl (lv_at hl 3 rfl) ?_
        refine lv_isub hx hb dX5_tick_223 ?_
        refine lv_iconst (v := 1) hx hb dX5_tick_224 (by decide) ?_
        refine lv_isub hx hb dX5_tick_225 ?_
        refine ks_put (D := D) (ci := 5) (C := RX5) (T := TX5) (N := 34) hx hb hts in_X5_tick_5 tyX5 tyX5_ok nmX5 hown hK hG hW hS (ks_v14 (i := 0) (j := 0) (hE 14 rfl)) 13 (v := (((((((σ 14 0 0 13)) + x1)) - x3)) - 1)) (ks_c14 cy ad o 0 0 _) (ks_c14s13 cy ad o 0 0 _ _) rfl (by decide) (hts (.fieldLink RX5 158 "SpinKernelModel" "now" "I") (by decide +kernel)) rfl (ty := .int) (by decide +kernel) rfl rfl (Nat.le_of_ble_eq_true rfl) dX5_tick_226 (fun H locs hW hS => ?_)
        refine lv_iload_n hx hb dX5_tick_229 rfl (lv_at hl 1 rfl) ?_
        refine lv_istore_n (lv' := [(3, .int x1), (0, .ref (ad 14 0 0)), (1, .int x1), (2, .int x2), (4, .int x4), (5, .int x5)]) hx hb dX5_tick_230 rfl hl (by decide) rfl (fun ls hl => ?_)
        refine lv_iinc (v := (x1 + 1)) (lv' := [(3, .int (x1 + 1)), (0, .ref (ad 14 0 0)), (1, .int x1), (2, .int x2), (4, .int x4), (5, .int x5)]) hx hb dX5_tick_231 hl (k := 0) rfl rfl (by decide) rfl (fun ls hl => ?_)
        refine lv_goto (tgt := 41) hx hb dX5_tick_234 (by decide) ?_
        exact hk41 _ _ _ _ hf hW hS (lv_sub hl [1, 2, 3, 0] rfl)
      · rw [if_neg c20] at hf
        refine lv_aload_n hx hb dX5_tick_177 rfl (lv_at hl 0 rfl) ?_
        refine va_get (D := D) (ci := 5) (v := .ref (ad 41 0 0)) (C := RX5) (T := TX5) (N := 34) hx hb hts in_X5_tick_5 hown hK (ks_P1 hW (ks_v14 (i := 0) (j := 0) (hE 14 rfl)) (ks_c14 cy ad o 0 0 _)) 0 rfl rfl 30 (by decide) (hts (.fieldLink RX5 89 "SpinKernelModel" "lastTask" "[I") (by decide +kernel)) (fun _ h => h) rfl dX5_tick_178 ?_
        refine lv_iload hx hb dX5_tick_181 (lv_at hl 5 rfl) ?_
        refine lv_iconst (v := (-1)) hx hb dX5_tick_183 (by decide) ?_
        obtain ⟨hi21, hf⟩ := ks_guard hf
        refine ks_iast hx hb hK hG hW hS (ks_v41 (i := 0) (j := 0) (hE 41 rfl)) (fun c => ks_c41 cy ad o 0 0 c) hi21 dX5_tick_184 (fun H locs hW hS => ?_)
        refine lv_aload_n hx hb dX5_tick_185 rfl (lv_at hl 0 rfl) ?_
        refine va_get (D := D) (ci := 5) (v := .ref (ad 42 0 0)) (C := RX5) (T := TX5) (N := 34) hx hb hts in_X5_tick_5 hown hK (ks_P1 hW (ks_v14 (i := 0) (j := 0) (hE 14 rfl)) (ks_c14 cy ad o 0 0 _)) 0 rfl rfl 31 (by decide) (hts (.fieldLink RX5 92 "SpinKernelModel" "lastState" "[I") (by decide +kernel)) (fun _ h => h) rfl dX5_tick_186 ?_
        refine lv_iload hx hb dX5_tick_189 (lv_at hl 5 rfl) ?_
        refine lv_iconst (v := 0) hx hb dX5_tick_191 (by decide) ?_
        obtain ⟨hi22, hf⟩ := ks_guard hf
        refine ks_iast hx hb hK hG hW hS (ks_v42 (i := 0) (j := 0) (hE 42 rfl)) (fun c => ks_c42 cy ad o 0 0 c) hi22 dX5_tick_192 (fun H locs hW hS => ?_)
        refine lv_aload_n hx hb dX5_tick_193 rfl (lv_at hl 0 rfl) ?_
        refine va_get (D := D) (ci := 5) (v := .ref (ad 39 0 0)) (C := RX5) (T := TX5) (N := 34) hx hb hts in_X5_tick_5 hown hK (ks_P1 hW (ks_v14 (i := 0) (j := 0) (hE 14 rfl)) (ks_c14 cy ad o 0 0 _)) 0 rfl rfl 28 (by decide) (hts (.fieldLink RX5 83 "SpinKernelModel" "at" "[I") (by decide +kernel)) (fun _ h => h) rfl dX5_tick_194 ?_
        refine lv_iload hx hb dX5_tick_197 (lv_at hl 5 rfl) ?_
        refine lv_iconst (v := (-1)) hx hb dX5_tick_199 (by decide) ?_
        obtain ⟨hi23, hf⟩ := ks_guard hf
        refine ks_iast hx hb hK hG hW hS (ks_v39 (i := 0) (j := 0) (hE 39 rfl)) (fun c => ks_c39 cy ad o 0 0 c) hi23 dX5_tick_200 (fun H locs hW hS => ?_)
        refine lv_aload_n hx hb dX5_tick_201 rfl (lv_at hl 0 rfl) ?_
        refine va_get (D := D) (ci := 5) (v := .ref (ad 40 0 0)) (C := RX5) (T := TX5) (N := 34) hx hb hts in_X5_tick_5 hown hK (ks_P1 hW (ks_v14 (i := 0) (j := 0) (hE 14 rfl)) (ks_c14 cy ad o 0 0 _)) 0 rfl rfl 29 (by decide) (hts (.fieldLink RX5 86 "SpinKernelModel" "state" "[I") (by decide +kernel)) (fun _ h => h) rfl dX5_tick_202 ?_
        refine lv_iload hx hb dX5_tick_205 (lv_at hl 5 rfl) ?_
        refine lv_iconst (v := 0) hx hb dX5_tick_207 (by decide) ?_
        obtain ⟨hi24, hf⟩ := ks_guard hf
        refine ks_iast hx hb hK hG hW hS (ks_v40 (i := 0) (j := 0) (hE 40 rfl)) (fun c => ks_c40 cy ad o 0 0 c) hi24 dX5_tick_208 (fun H locs hW hS => ?_)
        refine lv_iinc (v := (x5 + 1)) (lv' := [(5, .int (x5 + 1)), (0, .ref (ad 14 0 0)), (1, .int x1), (2, .int x2), (3, .int x3), (4, .int x4)]) hx hb dX5_tick_209 hl (k := 5) rfl rfl (by decide) rfl (fun ls hl => ?_)
        refine lv_goto (tgt := 166) hx hb dX5_tick_212 (by decide) ?_
        exact hk166 _ _ _ _ _ _ hf hW hS (lv_sub hl [1, 2, 3, 4, 5, 0] rfl)
set_option maxHeartbeats 4000000 in
set_option maxRecDepth 100000 in
theorem t_X5_tick_111 {p : Program} {l : Launch} {e : Env} {s : State} {m : MethodId} {args : Array Value} {below : List Frame} {meth : Method} {c : Code} {D : va_G} {cy : Nat → ClassId} {ad : ks_A} {En : Nat → Prop} {n0 : Nat → Prop} {σ0 : ks_S} {o : Int64} {N : Nat} {out : (Int32 × ks_S)} (C : ks_M p s m args meth c D cy ad En (fun k => ks_g k = 1) n0 σ0 o wsX5_tick cX5_tick RX5 6 (some .int)) {k41 : ks_S → Int32 → Int32 → Int32 → Option (Int32 × ks_S)} {k49 : ks_S → Int32 → Int32 → Int32 → Int32 → Option (Int32 × ks_S)} {k70 : ks_S → Int32 → Int32 → Int32 → Int32 → Option (Int32 × ks_S)} (hk41 : ∀ (σ : ks_S) (x1 : Int32) (x2 : Int32) (x3 : Int32), k41 σ x1 x2 x3 = some out → ∀ {H : Heap} {locs : List Loc} {ls : Array Slot}, ks_W D cy ad En σ o H → va_S (ks_F n0) s.heap H locs → lv_has ls 6 [(0, .ref (ad 14 0 0)), (1, .int x1), (2, .int x2), (3, .int x3)] → W p l e (ks_Rm 3 0 0 67) s m args below meth c H locs 0 0 (MQ below (ks_Qi D cy ad En n0 o out) args s 0 0 (ks_F n0)) (F0 m 41 ls [])) (hk49 : ∀ (σ : ks_S) (x1 : Int32) (x2 : Int32) (x3 : Int32) (x4 : Int32), k49 σ x1 x2 x3 x4 = some out → ∀ {H : Heap} {locs : List Loc} {ls : Array Slot}, ks_W D cy ad En σ o H → va_S (ks_F n0) s.heap H locs → lv_has ls 6 [(0, .ref (ad 14 0 0)), (1, .int x1), (2, .int x2), (3, .int x3), (4, .int x4)] → W p l e (ks_Rm 3 0 0 67) s m args below meth c H locs 0 0 (MQ below (ks_Qi D cy ad En n0 o out) args s 0 0 (ks_F n0)) (F0 m 49 ls [])) (hk70 : ∀ (σ : ks_S) (x1 : Int32) (x2 : Int32) (x3 : Int32) (x4 : Int32), k70 σ x1 x2 x3 x4 = some out → ∀ {H : Heap} {locs : List Loc} {ls : Array Slot}, ks_W D cy ad En σ o H → va_S (ks_F n0) s.heap H locs → lv_has ls 6 [(0, .ref (ad 14 0 0)), (1, .int x1), (2, .int x2), (3, .int x3), (4, .int x4)] → W p l e (ks_Rm 3 0 0 67) s m args below meth c H locs 0 0 (MQ below (ks_Qi D cy ad En n0 o out) args s 0 0 (ks_F n0)) (F0 m 70 ls [])) : ∀ (n : Nat) (σ : ks_S) (x1 : Int32) (x2 : Int32) (x3 : Int32) (x4 : Int32), f_X5_tick_111 N k41 k49 k70 n σ x1 x2 x3 x4 = some out → ∀ {H : Heap} {locs : List Loc} {ls : Array Slot}, ks_W D cy ad En σ o H → va_S (ks_F n0) s.heap H locs → lv_has ls 6 [(0, .ref (ad 14 0 0)), (1, .int x1), (2, .int x2), (3, .int x3), (4, .int x4)] → W p l e (ks_Rm 3 0 0 67) s m args below meth c H locs 0 0 (MQ below (ks_Qi D cy ad En n0 o out) args s 0 0 (ks_F n0)) (F0 m 111 ls []) := by
  obtain ⟨hx, hb, hml, hr, hown, hts, hlocks, hG, hU0, hE⟩ := id C
  have hK := hU0.2.2
  intro n
  induction n with
  | zero => intro σ x1 x2 x3 x4; intro  hf; exact absurd hf (by simp [f_X5_tick_111])
  | succ n hk111 =>
    intro σ x1 x2 x3 x4  hf H locs ls hW hS hl
    rw [f_X5_tick_111] at hf
    refine lv_iload hx hb dX5_tick_111 (lv_at hl 4 rfl) ?_
    refine lv_iconst (v := 4) hx hb dX5_tick_113 (by decide) ?_
    refine lv_icmp_ge (tgt := 132) hx hb dX5_tick_114 (by decide) (fun c13 => ?_) (fun c13 => ?_)
    · rw [if_pos c13] at hf
      refine lv_aload_n hx hb dX5_tick_132 rfl (lv_at hl 0 rfl) ?_
      refine lv_dup hx hb dX5_tick_133 rfl ?_
      refine va_get (D := D) (ci := 5) (v := .int (σ 14 0 0 13)) (C := RX5) (T := TX5) (N := 34) hx hb hts in_X5_tick_5 hown hK (ks_P1 hW (ks_v14 (i := 0) (j := 0) (hE 14 rfl)) (ks_c14 cy ad o 0 0 _)) 0 rfl rfl 13 (by decide) (hts (.fieldLink RX5 158 "SpinKernelModel" "now" "I") (by decide +kernel)) (fun _ h => h) rfl dX5_tick_134 ?_
      refine lv_iconst (v := 1) hx hb dX5_tick_137 (by decide) ?_
      refine lv_iadd hx hb dX5_tick_138 ?_
      refine ks_put (D := D) (ci := 5) (C := RX5) (T := TX5) (N := 34) hx hb hts in_X5_tick_5 tyX5 tyX5_ok nmX5 hown hK hG hW hS (ks_v14 (i := 0) (j := 0) (hE 14 rfl)) 13 (v := (((σ 14 0 0 13)) + 1)) (ks_c14 cy ad o 0 0 _) (ks_c14s13 cy ad o 0 0 _ _) rfl (by decide) (hts (.fieldLink RX5 158 "SpinKernelModel" "now" "I") (by decide +kernel)) rfl (ty := .int) (by decide +kernel) rfl rfl (Nat.le_of_ble_eq_true rfl) dX5_tick_139 (fun H locs hW hS => ?_)
      refine lv_aload_n hx hb dX5_tick_142 rfl (lv_at hl 0 rfl) ?_
      obtain ⟨⟨r16, s15⟩, hc14, hf⟩ := ks_bind hf
      try dsimp only at hf
      refine ks_calli (va_runV (As := []) (rest := []) ⟨hx, hb, hml, hown, hts⟩ (m_X5_hasOpen l D cy ad En n0 hG hE o hc14) (cwV 0 hts gX5_tick_X5_hasOpen rfl rfl rfl (by decide +kernel) ⟨(Nat.le_of_ble_eq_true rfl), (Nat.le_of_ble_eq_true rfl)⟩) ⟨ks_U.blind, ks_recv hK hW (ks_v14 (i := 0) (j := 0) (hE 14 rfl)) (ks_c14 cy ad o 0 0 _) rfl, fun U hU hWm => ⟨rfl, hU0.now hS hW hWm.alike hU⟩⟩ rfl rfl hl.1 rfl (lv_room (Nat.le_of_ble_eq_true rfl)) dX5_tick_143 ⟨(Nat.le_of_ble_eq_true rfl), (Nat.le_of_ble_eq_true rfl)⟩) hS (fun H locs hW hS => ?_)
      refine lv_if_ne (tgt := 231) hx hb dX5_tick_146 (by decide) (fun c17 => ?_) (fun c17 => ?_)
      · rw [if_neg c17] at hf
        refine lv_iinc (v := (x3 + 1)) (lv' := [(3, .int (x3 + 1)), (0, .ref (ad 14 0 0)), (1, .int x1), (2, .int x2), (4, .int x4)]) hx hb dX5_tick_231 hl (k := 3) rfl rfl (by decide) rfl (fun ls hl => ?_)
        refine lv_goto (tgt := 41) hx hb dX5_tick_234 (by decide) ?_
        exact hk41 _ _ _ _ hf hW hS (lv_sub hl [1, 2, 3, 0] rfl)
      · rw [if_pos c17] at hf
        refine lv_iload_n hx hb dX5_tick_149 rfl (lv_at hl 3 rfl) ?_
        refine lv_iconst (v := 1) hx hb dX5_tick_150 (by decide) ?_
        refine lv_iadd hx hb dX5_tick_151 ?_
        refine lv_iload_n hx hb dX5_tick_152 rfl (lv_at hl 1 rfl) ?_
        refine lv_icmp_ge (tgt := 160) hx hb dX5_tick_153 (by decide) (fun c18 => ?_) (fun c18 => ?_)
        · rw [if_pos c18] at hf
          refine lv_iconst (v := 0) hx hb dX5_tick_160 (by decide) ?_
          refine lv_istore (lv' := [(4, .int 0), (0, .ref (ad 14 0 0)), (1, .int x1), (2, .int x2), (3, .int x3)]) hx hb dX5_tick_161 hl (by decide) rfl (fun ls hl => ?_)
          refine lv_iconst (v := 0) hx hb dX5_tick_163 (by decide) ?_
          refine lv_istore (lv' := [(5, .int 0), (4, .int 0), (0, .ref (ad 14 0 0)), (1, .int x1), (2, .int x2), (3, .int x3)]) hx hb dX5_tick_164 hl (by decide) rfl (fun ls hl => ?_)
          exact t_X5_tick_166 C hk41 hk49 hk70 hk111 _ _ _ _ _ _ _  hf hW hS (lv_sub hl [2, 3, 4, 5, 1, 0] rfl)
        · rw [if_neg c18] at hf
          refine lv_iconst (v := 1) hx hb dX5_tick_156 (by decide) ?_
          refine lv_goto (tgt := 161) hx hb dX5_tick_157 (by decide) ?_
          refine lv_istore (lv' := [(4, .int 1), (0, .ref (ad 14 0 0)), (1, .int x1), (2, .int x2), (3, .int x3)]) hx hb dX5_tick_161 hl (by decide) rfl (fun ls hl => ?_)
          refine lv_iconst (v := 0) hx hb dX5_tick_163 (by decide) ?_
          refine lv_istore (lv' := [(5, .int 0), (4, .int 1), (0, .ref (ad 14 0 0)), (1, .int x1), (2, .int x2), (3, .int x3)]) hx hb dX5_tick_164 hl (by decide) rfl (fun ls hl => ?_)
          exact t_X5_tick_166 C hk41 hk49 hk70 hk111 _ _ _ _ _ _ _  hf hW hS (lv_sub hl [2, 3, 4, 5, 1, 0] rfl)
    · rw [if_neg c13] at hf
      refine lv_iload_n hx hb dX5_tick_117 rfl (lv_at hl 2 rfl) ?_
      refine lv_aload_n hx hb dX5_tick_118 rfl (lv_at hl 0 rfl) ?_
      refine lv_iload hx hb dX5_tick_119 (lv_at hl 4 rfl) ?_
      obtain ⟨⟨r27, s26⟩, hc25, hf⟩ := ks_bind hf
      try dsimp only at hf
      refine ks_calli (va_runV (As := [.int x4]) (rest := [.int x2]) ⟨hx, hb, hml, hown, hts⟩ (m_X5_goOn l D cy ad En n0 hG hE o hc25) (cwV 1 hts gX5_tick_X5_goOn rfl rfl rfl (by decide +kernel) ⟨(Nat.le_of_ble_eq_true rfl), (Nat.le_of_ble_eq_true rfl)⟩) ⟨ks_U.blind, ks_recv hK hW (ks_v14 (i := 0) (j := 0) (hE 14 rfl)) (ks_c14 cy ad o 0 0 _) rfl, fun U hU hWm => ⟨rfl, hU0.now hS hW hWm.alike hU⟩⟩ rfl rfl hl.1 rfl (lv_room (Nat.le_of_ble_eq_true rfl)) dX5_tick_121 ⟨(Nat.le_of_ble_eq_true rfl), (Nat.le_of_ble_eq_true rfl)⟩) hS (fun H locs hW hS => ?_)
      refine lv_iadd hx hb dX5_tick_124 ?_
      refine lv_istore_n (lv' := [(2, .int (x2 + r27)), (0, .ref (ad 14 0 0)), (1, .int x1), (3, .int x3), (4, .int x4)]) hx hb dX5_tick_125 rfl hl (by decide) rfl (fun ls hl => ?_)
      refine lv_iinc (v := (x4 + 1)) (lv' := [(4, .int (x4 + 1)), (2, .int (x2 + r27)), (0, .ref (ad 14 0 0)), (1, .int x1), (3, .int x3)]) hx hb dX5_tick_126 hl (k := 4) rfl rfl (by decide) rfl (fun ls hl => ?_)
      refine lv_goto (tgt := 111) hx hb dX5_tick_129 (by decide) ?_
      exact hk111 _ _ _ _ _ hf hW hS (lv_sub hl [2, 3, 1, 4, 0] rfl)
set_option maxHeartbeats 4000000 in
set_option maxRecDepth 100000 in
theorem t_X5_tick_70 {p : Program} {l : Launch} {e : Env} {s : State} {m : MethodId} {args : Array Value} {below : List Frame} {meth : Method} {c : Code} {D : va_G} {cy : Nat → ClassId} {ad : ks_A} {En : Nat → Prop} {n0 : Nat → Prop} {σ0 : ks_S} {o : Int64} {N : Nat} {out : (Int32 × ks_S)} (C : ks_M p s m args meth c D cy ad En (fun k => ks_g k = 1) n0 σ0 o wsX5_tick cX5_tick RX5 6 (some .int)) {k41 : ks_S → Int32 → Int32 → Int32 → Option (Int32 × ks_S)} {k49 : ks_S → Int32 → Int32 → Int32 → Int32 → Option (Int32 × ks_S)} (hk41 : ∀ (σ : ks_S) (x1 : Int32) (x2 : Int32) (x3 : Int32), k41 σ x1 x2 x3 = some out → ∀ {H : Heap} {locs : List Loc} {ls : Array Slot}, ks_W D cy ad En σ o H → va_S (ks_F n0) s.heap H locs → lv_has ls 6 [(0, .ref (ad 14 0 0)), (1, .int x1), (2, .int x2), (3, .int x3)] → W p l e (ks_Rm 3 0 0 67) s m args below meth c H locs 0 0 (MQ below (ks_Qi D cy ad En n0 o out) args s 0 0 (ks_F n0)) (F0 m 41 ls [])) (hk49 : ∀ (σ : ks_S) (x1 : Int32) (x2 : Int32) (x3 : Int32) (x4 : Int32), k49 σ x1 x2 x3 x4 = some out → ∀ {H : Heap} {locs : List Loc} {ls : Array Slot}, ks_W D cy ad En σ o H → va_S (ks_F n0) s.heap H locs → lv_has ls 6 [(0, .ref (ad 14 0 0)), (1, .int x1), (2, .int x2), (3, .int x3), (4, .int x4)] → W p l e (ks_Rm 3 0 0 67) s m args below meth c H locs 0 0 (MQ below (ks_Qi D cy ad En n0 o out) args s 0 0 (ks_F n0)) (F0 m 49 ls [])) : ∀ (n : Nat) (σ : ks_S) (x1 : Int32) (x2 : Int32) (x3 : Int32) (x4 : Int32), f_X5_tick_70 N k41 k49 n σ x1 x2 x3 x4 = some out → ∀ {H : Heap} {locs : List Loc} {ls : Array Slot}, ks_W D cy ad En σ o H → va_S (ks_F n0) s.heap H locs → lv_has ls 6 [(0, .ref (ad 14 0 0)), (1, .int x1), (2, .int x2), (3, .int x3), (4, .int x4)] → W p l e (ks_Rm 3 0 0 67) s m args below meth c H locs 0 0 (MQ below (ks_Qi D cy ad En n0 o out) args s 0 0 (ks_F n0)) (F0 m 70 ls []) := by
  obtain ⟨hx, hb, hml, hr, hown, hts, hlocks, hG, hU0, hE⟩ := id C
  have hK := hU0.2.2
  intro n
  induction n with
  | zero => intro σ x1 x2 x3 x4; intro  hf; exact absurd hf (by simp [f_X5_tick_70])
  | succ n hk70 =>
    intro σ x1 x2 x3 x4  hf H locs ls hW hS hl
    rw [f_X5_tick_70] at hf
    refine lv_iload hx hb dX5_tick_70 (lv_at hl 4 rfl) ?_
    refine lv_bipush (v := 8) hx hb dX5_tick_72 (by decide) ?_
    refine lv_icmp_ge (tgt := 108) hx hb dX5_tick_74 (by decide) (fun c12 => ?_) (fun c12 => ?_)
    · rw [if_pos c12] at hf
      refine lv_iconst (v := 0) hx hb dX5_tick_108 (by decide) ?_
      refine lv_istore (lv' := [(4, .int 0), (0, .ref (ad 14 0 0)), (1, .int x1), (2, .int x2), (3, .int x3)]) hx hb dX5_tick_109 hl (by decide) rfl (fun ls hl => ?_)
      exact t_X5_tick_111 C hk41 hk49 hk70 _ _ _ _ _ _  hf hW hS (lv_sub hl [1, 2, 3, 4, 0] rfl)
    · rw [if_neg c12] at hf
      refine lv_aload_n hx hb dX5_tick_77 rfl (lv_at hl 0 rfl) ?_
      refine va_get (D := D) (ci := 5) (v := .ref (ad 44 0 0)) (C := RX5) (T := TX5) (N := 34) hx hb hts in_X5_tick_5 hown hK (ks_P1 hW (ks_v14 (i := 0) (j := 0) (hE 14 rfl)) (ks_c14 cy ad o 0 0 _)) 0 rfl rfl 33 (by decide) (hts (.fieldLink RX5 98 "SpinKernelModel" "many" "[I") (by decide +kernel)) (fun _ h => h) rfl dX5_tick_78 ?_
      refine lv_iload hx hb dX5_tick_81 (lv_at hl 4 rfl) ?_
      obtain ⟨hi28, hf⟩ := ks_guard hf
      refine ks_iald hx hb hK hW (ks_v44 (i := 0) (j := 0) (hE 44 rfl)) (ks_c44 cy ad o 0 0 _) hi28 dX5_tick_83 ?_
      refine lv_if_le (tgt := 102) hx hb dX5_tick_84 (by decide) (fun c29 => ?_) (fun c29 => ?_)
      · rw [if_pos c29] at hf
        refine lv_iinc (v := (x4 + 1)) (lv' := [(4, .int (x4 + 1)), (0, .ref (ad 14 0 0)), (1, .int x1), (2, .int x2), (3, .int x3)]) hx hb dX5_tick_102 hl (k := 4) rfl rfl (by decide) rfl (fun ls hl => ?_)
        refine lv_goto (tgt := 70) hx hb dX5_tick_105 (by decide) ?_
        exact hk70 _ _ _ _ _ hf hW hS (lv_sub hl [1, 2, 3, 4, 0] rfl)
      · rw [if_neg c29] at hf
        refine lv_aload_n hx hb dX5_tick_87 rfl (lv_at hl 0 rfl) ?_
        refine va_get (D := D) (ci := 5) (v := .ref (ad 40 0 0)) (C := RX5) (T := TX5) (N := 34) hx hb hts in_X5_tick_5 hown hK (ks_P1 hW (ks_v14 (i := 0) (j := 0) (hE 14 rfl)) (ks_c14 cy ad o 0 0 _)) 0 rfl rfl 29 (by decide) (hts (.fieldLink RX5 86 "SpinKernelModel" "state" "[I") (by decide +kernel)) (fun _ h => h) rfl dX5_tick_88 ?_
        refine lv_aload_n hx hb dX5_tick_91 rfl (lv_at hl 0 rfl) ?_
        refine va_get (D := D) (ci := 5) (v := .ref (ad 43 0 0)) (C := RX5) (T := TX5) (N := 34) hx hb hts in_X5_tick_5 hown hK (ks_P1 hW (ks_v14 (i := 0) (j := 0) (hE 14 rfl)) (ks_c14 cy ad o 0 0 _)) 0 rfl rfl 32 (by decide) (hts (.fieldLink RX5 95 "SpinKernelModel" "rows" "[I") (by decide +kernel)) (fun _ h => h) rfl dX5_tick_92 ?_
        refine lv_iconst (v := 4) hx hb dX5_tick_95 (by decide) ?_
        refine lv_iload hx hb dX5_tick_96 (lv_at hl 4 rfl) ?_
        refine lv_imul hx hb dX5_tick_98 ?_
        obtain ⟨hi30, hf⟩ := ks_guard hf
        refine ks_iald hx hb hK hW (ks_v43 (i := 0) (j := 0) (hE 43 rfl)) (ks_c43 cy ad o 0 0 _) hi30 dX5_tick_99 ?_
        refine lv_iconst (v := 3) hx hb dX5_tick_100 (by decide) ?_
        obtain ⟨hi31, hf⟩ := ks_guard hf
        refine ks_iast hx hb hK hG hW hS (ks_v40 (i := 0) (j := 0) (hE 40 rfl)) (fun c => ks_c40 cy ad o 0 0 c) hi31 dX5_tick_101 (fun H locs hW hS => ?_)
        refine lv_iinc (v := (x4 + 1)) (lv' := [(4, .int (x4 + 1)), (0, .ref (ad 14 0 0)), (1, .int x1), (2, .int x2), (3, .int x3)]) hx hb dX5_tick_102 hl (k := 4) rfl rfl (by decide) rfl (fun ls hl => ?_)
        refine lv_goto (tgt := 70) hx hb dX5_tick_105 (by decide) ?_
        exact hk70 _ _ _ _ _ hf hW hS (lv_sub hl [1, 2, 3, 4, 0] rfl)
set_option maxHeartbeats 4000000 in
set_option maxRecDepth 100000 in
theorem t_X5_tick_49 {p : Program} {l : Launch} {e : Env} {s : State} {m : MethodId} {args : Array Value} {below : List Frame} {meth : Method} {c : Code} {D : va_G} {cy : Nat → ClassId} {ad : ks_A} {En : Nat → Prop} {n0 : Nat → Prop} {σ0 : ks_S} {o : Int64} {N : Nat} {out : (Int32 × ks_S)} (C : ks_M p s m args meth c D cy ad En (fun k => ks_g k = 1) n0 σ0 o wsX5_tick cX5_tick RX5 6 (some .int)) {k41 : ks_S → Int32 → Int32 → Int32 → Option (Int32 × ks_S)} (hk41 : ∀ (σ : ks_S) (x1 : Int32) (x2 : Int32) (x3 : Int32), k41 σ x1 x2 x3 = some out → ∀ {H : Heap} {locs : List Loc} {ls : Array Slot}, ks_W D cy ad En σ o H → va_S (ks_F n0) s.heap H locs → lv_has ls 6 [(0, .ref (ad 14 0 0)), (1, .int x1), (2, .int x2), (3, .int x3)] → W p l e (ks_Rm 3 0 0 67) s m args below meth c H locs 0 0 (MQ below (ks_Qi D cy ad En n0 o out) args s 0 0 (ks_F n0)) (F0 m 41 ls [])) : ∀ (n : Nat) (σ : ks_S) (x1 : Int32) (x2 : Int32) (x3 : Int32) (x4 : Int32), f_X5_tick_49 N k41 n σ x1 x2 x3 x4 = some out → ∀ {H : Heap} {locs : List Loc} {ls : Array Slot}, ks_W D cy ad En σ o H → va_S (ks_F n0) s.heap H locs → lv_has ls 6 [(0, .ref (ad 14 0 0)), (1, .int x1), (2, .int x2), (3, .int x3), (4, .int x4)] → W p l e (ks_Rm 3 0 0 67) s m args below meth c H locs 0 0 (MQ below (ks_Qi D cy ad En n0 o out) args s 0 0 (ks_F n0)) (F0 m 49 ls []) := by
  obtain ⟨hx, hb, hml, hr, hown, hts, hlocks, hG, hU0, hE⟩ := id C
  have hK := hU0.2.2
  intro n
  induction n with
  | zero => intro σ x1 x2 x3 x4; intro  hf; exact absurd hf (by simp [f_X5_tick_49])
  | succ n hk49 =>
    intro σ x1 x2 x3 x4  hf H locs ls hW hS hl
    rw [f_X5_tick_49] at hf
    refine lv_iload hx hb dX5_tick_49 (lv_at hl 4 rfl) ?_
    refine lv_iconst (v := 4) hx hb dX5_tick_51 (by decide) ?_
    refine lv_icmp_ge (tgt := 67) hx hb dX5_tick_52 (by decide) (fun c11 => ?_) (fun c11 => ?_)
    · rw [if_pos c11] at hf
      refine lv_iconst (v := 0) hx hb dX5_tick_67 (by decide) ?_
      refine lv_istore (lv' := [(4, .int 0), (0, .ref (ad 14 0 0)), (1, .int x1), (2, .int x2), (3, .int x3)]) hx hb dX5_tick_68 hl (by decide) rfl (fun ls hl => ?_)
      exact t_X5_tick_70 C hk41 hk49 _ _ _ _ _ _  hf hW hS (lv_sub hl [1, 2, 3, 4, 0] rfl)
    · rw [if_neg c11] at hf
      refine lv_aload_n hx hb dX5_tick_55 rfl (lv_at hl 0 rfl) ?_
      refine lv_iload hx hb dX5_tick_56 (lv_at hl 4 rfl) ?_
      obtain ⟨s33, hc32, hf⟩ := ks_bind hf
      try dsimp only at hf
      refine ks_callv (va_runV (As := [.int x4]) (rest := []) ⟨hx, hb, hml, hown, hts⟩ (m_X5_choose l D cy ad En n0 hG hE o hc32) (cwV 1 hts gX5_tick_X5_choose rfl rfl rfl (by decide +kernel) ⟨(Nat.le_of_ble_eq_true rfl), (Nat.le_of_ble_eq_true rfl)⟩) ⟨ks_U.blind, ks_recv hK hW (ks_v14 (i := 0) (j := 0) (hE 14 rfl)) (ks_c14 cy ad o 0 0 _) rfl, fun U hU hWm => ⟨rfl, hU0.now hS hW hWm.alike hU⟩⟩ rfl rfl hl.1 rfl (lv_room (Nat.le_of_ble_eq_true rfl)) dX5_tick_58 ⟨(Nat.le_of_ble_eq_true rfl), (Nat.le_of_ble_eq_true rfl)⟩) hS (fun H locs hW hS => ?_)
      refine lv_iinc (v := (x4 + 1)) (lv' := [(4, .int (x4 + 1)), (0, .ref (ad 14 0 0)), (1, .int x1), (2, .int x2), (3, .int x3)]) hx hb dX5_tick_61 hl (k := 4) rfl rfl (by decide) rfl (fun ls hl => ?_)
      refine lv_goto (tgt := 49) hx hb dX5_tick_64 (by decide) ?_
      exact hk49 _ _ _ _ _ hf hW hS (lv_sub hl [1, 2, 3, 4, 0] rfl)
set_option maxHeartbeats 4000000 in
set_option maxRecDepth 100000 in
theorem t_X5_tick_41 {p : Program} {l : Launch} {e : Env} {s : State} {m : MethodId} {args : Array Value} {below : List Frame} {meth : Method} {c : Code} {D : va_G} {cy : Nat → ClassId} {ad : ks_A} {En : Nat → Prop} {n0 : Nat → Prop} {σ0 : ks_S} {o : Int64} {N : Nat} {out : (Int32 × ks_S)} (C : ks_M p s m args meth c D cy ad En (fun k => ks_g k = 1) n0 σ0 o wsX5_tick cX5_tick RX5 6 (some .int)) : ∀ (n : Nat) (σ : ks_S) (x1 : Int32) (x2 : Int32) (x3 : Int32), f_X5_tick_41 N n σ x1 x2 x3 = some out → ∀ {H : Heap} {locs : List Loc} {ls : Array Slot}, ks_W D cy ad En σ o H → va_S (ks_F n0) s.heap H locs → lv_has ls 6 [(0, .ref (ad 14 0 0)), (1, .int x1), (2, .int x2), (3, .int x3)] → W p l e (ks_Rm 3 0 0 67) s m args below meth c H locs 0 0 (MQ below (ks_Qi D cy ad En n0 o out) args s 0 0 (ks_F n0)) (F0 m 41 ls []) := by
  obtain ⟨hx, hb, hml, hr, hown, hts, hlocks, hG, hU0, hE⟩ := id C
  have hK := hU0.2.2
  intro n
  induction n with
  | zero => intro σ x1 x2 x3; intro  hf; exact absurd hf (by simp [f_X5_tick_41])
  | succ n hk41 =>
    intro σ x1 x2 x3  hf H locs ls hW hS hl
    rw [f_X5_tick_41] at hf
    refine lv_iload_n hx hb dX5_tick_41 rfl (lv_at hl 3 rfl) ?_
    refine lv_iload_n hx hb dX5_tick_42 rfl (lv_at hl 1 rfl) ?_
    refine lv_icmp_ge (tgt := 237) hx hb dX5_tick_43 (by decide) (fun c10 => ?_) (fun c10 => ?_)
    · rw [if_pos c10] at hf
      refine lv_iload_n hx hb dX5_tick_237 rfl (lv_at hl 2 rfl) ?_
      exact ks_iret C hf hW hS dX5_tick_238
    · rw [if_neg c10] at hf
      refine lv_iconst (v := 0) hx hb dX5_tick_46 (by decide) ?_
      refine lv_istore (lv' := [(4, .int 0), (0, .ref (ad 14 0 0)), (1, .int x1), (2, .int x2), (3, .int x3)]) hx hb dX5_tick_47 hl (by decide) rfl (fun ls hl => ?_)
      exact t_X5_tick_49 C hk41 _ _ _ _ _ _  hf hW hS (lv_sub hl [1, 2, 3, 4, 0] rfl)
set_option maxHeartbeats 4000000 in
set_option maxRecDepth 100000 in
theorem t_X5_tick_13 {p : Program} {l : Launch} {e : Env} {s : State} {m : MethodId} {args : Array Value} {below : List Frame} {meth : Method} {c : Code} {D : va_G} {cy : Nat → ClassId} {ad : ks_A} {En : Nat → Prop} {n0 : Nat → Prop} {σ0 : ks_S} {o : Int64} {N : Nat} {out : (Int32 × ks_S)} (C : ks_M p s m args meth c D cy ad En (fun k => ks_g k = 1) n0 σ0 o wsX5_tick cX5_tick RX5 6 (some .int)) {σ : ks_S} {x1 : Int32} {xs0 : Int32}  (hf : f_X5_tick_13 N σ x1 xs0 = some out) {H : Heap} {locs : List Loc} {ls : Array Slot} (hW : ks_W D cy ad En σ o H) (hS : va_S (ks_F n0) s.heap H locs) (hl : lv_has ls 6 [(0, .ref (ad 14 0 0)), (1, .int x1)]) : W p l e (ks_Rm 3 0 0 67) s m args below meth c H locs 0 0 (MQ below (ks_Qi D cy ad En n0 o out) args s 0 0 (ks_F n0)) (F0 m 13 ls [.int xs0, .ref (ad 14 0 0)]) := by
  obtain ⟨hx, hb, hml, hr, hown, hts, hlocks, hG, hU0, hE⟩ := id C
  have hK := hU0.2.2
  unfold f_X5_tick_13 at hf
  refine lv_iload_n hx hb dX5_tick_13 rfl (lv_at hl 1 rfl) ?_
  refine lv_iconst (v := 1) hx hb dX5_tick_14 (by decide) ?_
  refine lv_ldc (v := 100000) hx hb hown (hts (.constant RX5 182 (100000)) (by decide +kernel)) dX5_tick_15 ?_
  obtain ⟨⟨r4, s3⟩, hc2, hf⟩ := ks_bind hf
  try dsimp only at hf
  refine ks_calli (va_runS (As := [.int x1, .int 1, .int 100000]) (rest := [.int xs0, .ref (ad 14 0 0)]) ⟨hx, hb, hml, hown, hts⟩ (m_X5_within l D cy ad En n0 hG hE o hc2) (va_cwS 3 hts gX5_tick_X5_within rfl rfl rfl (by decide +kernel) ⟨(Nat.le_of_ble_eq_true rfl), (Nat.le_of_ble_eq_true rfl)⟩) ⟨ks_U.blind, fun U hU hWm => ⟨rfl, hU0.now hS hW hWm.alike hU⟩⟩ rfl rfl hl.1 rfl (lv_room (Nat.le_of_ble_eq_true rfl)) dX5_tick_17 ⟨(Nat.le_of_ble_eq_true rfl), (Nat.le_of_ble_eq_true rfl)⟩) hS (fun H locs hW hS => ?_)
  refine lv_if_ne (tgt := 27) hx hb dX5_tick_20 (by decide) (fun c5 => ?_) (fun c5 => ?_)
  · rw [if_neg c5] at hf
    refine lv_iconst (v := 0) hx hb dX5_tick_27 (by decide) ?_
    refine lv_iconst (v := 0) hx hb dX5_tick_28 (by decide) ?_
    obtain ⟨⟨r8, s7⟩, hc6, hf⟩ := ks_bind hf
    try dsimp only at hf
    refine ks_calli (va_runV (As := [.int xs0, .int 0, .int 0]) (rest := []) ⟨hx, hb, hml, hown, hts⟩ (m_X5_refused l D cy ad En n0 hG hE o hc6) (cwV 3 hts gX5_tick_X5_refused rfl rfl rfl (by decide +kernel) ⟨(Nat.le_of_ble_eq_true rfl), (Nat.le_of_ble_eq_true rfl)⟩) ⟨ks_U.blind, ks_recv hK hW (ks_v14 (i := 0) (j := 0) (hE 14 rfl)) (ks_c14 cy ad o 0 0 _) rfl, fun U hU hWm => ⟨rfl, hU0.now hS hW hWm.alike hU⟩⟩ rfl rfl hl.1 rfl (lv_room (Nat.le_of_ble_eq_true rfl)) dX5_tick_29 ⟨(Nat.le_of_ble_eq_true rfl), (Nat.le_of_ble_eq_true rfl)⟩) hS (fun H locs hW hS => ?_)
    refine lv_if_eq (tgt := 37) hx hb dX5_tick_32 (by decide) (fun c9 => ?_) (fun c9 => ?_)
    · rw [if_pos c9] at hf
      refine lv_iconst (v := 0) hx hb dX5_tick_37 (by decide) ?_
      refine lv_istore_n (lv' := [(2, .int 0), (0, .ref (ad 14 0 0)), (1, .int x1)]) hx hb dX5_tick_38 rfl hl (by decide) rfl (fun ls hl => ?_)
      refine lv_iconst (v := 0) hx hb dX5_tick_39 (by decide) ?_
      refine lv_istore_n (lv' := [(3, .int 0), (2, .int 0), (0, .ref (ad 14 0 0)), (1, .int x1)]) hx hb dX5_tick_40 rfl hl (by decide) rfl (fun ls hl => ?_)
      exact t_X5_tick_41 C _ _ _ _ _  hf hW hS (lv_sub hl [2, 3, 1, 0] rfl)
    · rw [if_neg c9] at hf
      refine lv_iconst (v := 0) hx hb dX5_tick_35 (by decide) ?_
      exact ks_iret C hf hW hS dX5_tick_36
  · rw [if_pos c5] at hf
    refine lv_iconst (v := 1) hx hb dX5_tick_23 (by decide) ?_
    refine lv_goto (tgt := 28) hx hb dX5_tick_24 (by decide) ?_
    refine lv_iconst (v := 0) hx hb dX5_tick_28 (by decide) ?_
    obtain ⟨⟨r37, s36⟩, hc35, hf⟩ := ks_bind hf
    try dsimp only at hf
    refine ks_calli (va_runV (As := [.int xs0, .int 1, .int 0]) (rest := []) ⟨hx, hb, hml, hown, hts⟩ (m_X5_refused l D cy ad En n0 hG hE o hc35) (cwV 3 hts gX5_tick_X5_refused rfl rfl rfl (by decide +kernel) ⟨(Nat.le_of_ble_eq_true rfl), (Nat.le_of_ble_eq_true rfl)⟩) ⟨ks_U.blind, ks_recv hK hW (ks_v14 (i := 0) (j := 0) (hE 14 rfl)) (ks_c14 cy ad o 0 0 _) rfl, fun U hU hWm => ⟨rfl, hU0.now hS hW hWm.alike hU⟩⟩ rfl rfl hl.1 rfl (lv_room (Nat.le_of_ble_eq_true rfl)) dX5_tick_29 ⟨(Nat.le_of_ble_eq_true rfl), (Nat.le_of_ble_eq_true rfl)⟩) hS (fun H locs hW hS => ?_)
    refine lv_if_eq (tgt := 37) hx hb dX5_tick_32 (by decide) (fun c38 => ?_) (fun c38 => ?_)
    · rw [if_pos c38] at hf
      refine lv_iconst (v := 0) hx hb dX5_tick_37 (by decide) ?_
      refine lv_istore_n (lv' := [(2, .int 0), (0, .ref (ad 14 0 0)), (1, .int x1)]) hx hb dX5_tick_38 rfl hl (by decide) rfl (fun ls hl => ?_)
      refine lv_iconst (v := 0) hx hb dX5_tick_39 (by decide) ?_
      refine lv_istore_n (lv' := [(3, .int 0), (2, .int 0), (0, .ref (ad 14 0 0)), (1, .int x1)]) hx hb dX5_tick_40 rfl hl (by decide) rfl (fun ls hl => ?_)
      exact t_X5_tick_41 C _ _ _ _ _  hf hW hS (lv_sub hl [2, 3, 1, 0] rfl)
    · rw [if_neg c38] at hf
      refine lv_iconst (v := 0) hx hb dX5_tick_35 (by decide) ?_
      exact ks_iret C hf hW hS dX5_tick_36
set_option maxHeartbeats 4000000 in
set_option maxRecDepth 100000 in
theorem t_X5_tick {p : Program} {l : Launch} {e : Env} {s : State} {m : MethodId} {args : Array Value} {below : List Frame} {meth : Method} {c : Code} {D : va_G} {cy : Nat → ClassId} {ad : ks_A} {En : Nat → Prop} {n0 : Nat → Prop} {σ0 : ks_S} {o : Int64} {N : Nat} {out : (Int32 × ks_S)} (C : ks_M p s m args meth c D cy ad En (fun k => ks_g k = 1) n0 σ0 o wsX5_tick cX5_tick RX5 6 (some .int)) {σ : ks_S} {x1 : Int32}  (hf : f_X5_tick N σ x1 = some out) {H : Heap} {locs : List Loc} {ls : Array Slot} (hW : ks_W D cy ad En σ o H) (hS : va_S (ks_F n0) s.heap H locs) (hl : lv_has ls 6 [(0, .ref (ad 14 0 0)), (1, .int x1)]) : W p l e (ks_Rm 3 0 0 67) s m args below meth c H locs 0 0 (MQ below (ks_Qi D cy ad En n0 o out) args s 0 0 (ks_F n0)) (F0 m 0 ls []) := by
  obtain ⟨hx, hb, hml, hr, hown, hts, hlocks, hG, hU0, hE⟩ := id C
  have hK := hU0.2.2
  unfold f_X5_tick at hf
  refine lv_aload_n hx hb dX5_tick_0 rfl (lv_at hl 0 rfl) ?_
  refine lv_aload_n hx hb dX5_tick_1 rfl (lv_at hl 0 rfl) ?_
  refine va_get (D := D) (ci := 5) (v := .int (σ 14 0 0 12)) (C := RX5) (T := TX5) (N := 34) hx hb hts in_X5_tick_5 hown hK (ks_P1 hW (ks_v14 (i := 0) (j := 0) (hE 14 rfl)) (ks_c14 cy ad o 0 0 _)) 0 rfl rfl 12 (by decide) (hts (.fieldLink RX5 116 "SpinKernelModel" "sealed" "Z") (by decide +kernel)) (fun _ h => h) rfl dX5_tick_2 ?_
  refine lv_if_ne (tgt := 12) hx hb dX5_tick_5 (by decide) (fun c1 => ?_) (fun c1 => ?_)
  · rw [if_neg c1] at hf
    refine lv_iconst (v := 0) hx hb dX5_tick_12 (by decide) ?_
    exact t_X5_tick_13 C  hf hW hS (lv_sub hl [0, 1] rfl)
  · rw [if_pos c1] at hf
    refine lv_iconst (v := 1) hx hb dX5_tick_8 (by decide) ?_
    refine lv_goto (tgt := 13) hx hb dX5_tick_9 (by decide) ?_
    exact t_X5_tick_13 C  hf hW hS (lv_sub hl [0, 1] rfl)
set_option maxHeartbeats 4000000 in
set_option maxRecDepth 100000 in
theorem m_X5_tick (l : Launch) (D : va_G) (cy : Nat → ClassId) (ad : ks_A) (En : Nat → Prop) (n0 : Nat → Prop) (hG : ks_G ad En n0) (hE : ∀ k, ks_g k = 1 → En k) (o : Int64) {N : Nat} {σ : ks_S} {x1 : Int32}  {out : (Int32 × ks_S)} (hf : f_X5_tick N σ x1 = some out) : Met l yX5_tick wsX5_tick (ks_Rm 3 0 0 67) (va_Pc [.ref (ad 14 0 0), .int x1] (ks_U D cy ad En n0 σ o)) (ks_Qi D cy ad En n0 o out) 0 0 (ks_F n0) := by
  refine Met.ofW (cc := cX5_tick) (maxL := 6) (ret := some .int) (by decide) rfl ?_
  intro p e s m args below meth c s₁ B hml hv
  obtain ⟨rfl, hU⟩ := hv
  have hl := lv_entry ([.ref (ad 14 0 0), .int x1]) (n := 6) (Nat.le_of_ble_eq_true rfl)
  rw [lg_entry_eq]
  generalize (lg_sl ([.ref (ad 14 0 0), .int x1]) ++ List.replicate (6 - (lg_sl ([.ref (ad 14 0 0), .int x1])).length) Slot.unset).toArray = ls at hl ⊢
  exact t_X5_tick ⟨B.exec, B.bytes, hml, B.returns, findClass_of_methodNamed B.named, atoms_spec (ws := wsX5_tick) B.pre, B.notSynchronized, hG, hU, hE⟩  hf hU.2.1 va_S.rf hl
