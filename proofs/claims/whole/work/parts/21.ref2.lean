/-! SpinKernelModel.findGroups()V -/
def f_X5_findGroups_120 (N : Nat) (k2 : ks_S → Int32 → Option ks_S) (k23 : ks_S → Int32 → Option ks_S) (k31 : ks_S → Int32 → Int32 → Option ks_S) (k39 : ks_S → Int32 → Int32 → Int32 → Option ks_S) (σ : ks_S) (x2 : Int32) (x3 : Int32) (x5 : Int32) (x6 : Int32) (xs0 : Int32) : Option ks_S :=
  (if ks_in x5 8 = true then (if ks_in x6 8 = true then (if ((σ 25 0 0 x6.toNatClampNeg)) ≤ ((σ 25 0 0 x5.toNatClampNeg)) then (if ks_in x6 8 = true then (if ks_in x5 8 = true then (if ks_in x6 8 = true then k39 ((ks_up (ks_up σ 25 0 0 x5.toNatClampNeg ((σ 25 0 0 x6.toNatClampNeg))) 25 0 0 x6.toNatClampNeg ((σ 25 0 0 x6.toNatClampNeg)))) xs0 x2 ((x3 + 1)) else none) else none) else none) else (if ks_in x5 8 = true then (if ks_in x5 8 = true then (if ks_in x6 8 = true then k39 ((ks_up (ks_up σ 25 0 0 x5.toNatClampNeg ((σ 25 0 0 x5.toNatClampNeg))) 25 0 0 x6.toNatClampNeg ((σ 25 0 0 x5.toNatClampNeg)))) xs0 x2 ((x3 + 1)) else none) else none) else none)) else none) else none)
def f_X5_findGroups_115 (N : Nat) (k2 : ks_S → Int32 → Option ks_S) (k23 : ks_S → Int32 → Option ks_S) (k31 : ks_S → Int32 → Int32 → Option ks_S) (k39 : ks_S → Int32 → Int32 → Int32 → Option ks_S) (σ : ks_S) (x2 : Int32) (x3 : Int32) (x5 : Int32) (x6 : Int32) : Option ks_S :=
  f_X5_findGroups_120 N k2 k23 k31 k39 σ x2 x3 x5 x6 1
def f_X5_findGroups_39 (N : Nat) (k2 : ks_S → Int32 → Option ks_S) (k23 : ks_S → Int32 → Option ks_S) (k31 : ks_S → Int32 → Int32 → Option ks_S) : Nat → ks_S → Int32 → Int32 → Int32 → Option ks_S
  | 0, _, _, _, _ => none
  | n + 1, σ, x1, x2, x3 => (if ks_in x2 16 = true then (if ((σ 20 0 0 x2.toNatClampNeg)) ≤ x3 then k31 σ x1 ((x2 + 1)) else (if ks_in ((((6 * x2)) + x3)) 96 = true then (if ((σ 24 0 0 ((((6 * x2)) + x3)).toNatClampNeg)) < 0 then f_X5_findGroups_39 N k2 k23 k31 n σ x1 x2 ((x3 + 1)) else (if ks_in ((((6 * x2)) + x3)) 96 = true then (if ks_in ((((6 * x2)) + ((σ 24 0 0 ((((6 * x2)) + x3)).toNatClampNeg)))) 96 = true then (if x1 = 0 then (if ks_in ((σ 22 0 0 ((((6 * x2)) + x3)).toNatClampNeg)) 8 = true then (if ks_in ((σ 22 0 0 ((((6 * x2)) + ((σ 24 0 0 ((((6 * x2)) + x3)).toNatClampNeg)))).toNatClampNeg)) 8 = true then (if ((σ 25 0 0 ((σ 22 0 0 ((((6 * x2)) + x3)).toNatClampNeg)).toNatClampNeg)) = ((σ 25 0 0 ((σ 22 0 0 ((((6 * x2)) + ((σ 24 0 0 ((((6 * x2)) + x3)).toNatClampNeg)))).toNatClampNeg)).toNatClampNeg)) then f_X5_findGroups_120 N k2 k23 k31 (f_X5_findGroups_39 N k2 k23 k31 n) σ x2 x3 ((σ 22 0 0 ((((6 * x2)) + x3)).toNatClampNeg)) ((σ 22 0 0 ((((6 * x2)) + ((σ 24 0 0 ((((6 * x2)) + x3)).toNatClampNeg)))).toNatClampNeg)) 0 else f_X5_findGroups_115 N k2 k23 k31 (f_X5_findGroups_39 N k2 k23 k31 n) σ x2 x3 ((σ 22 0 0 ((((6 * x2)) + x3)).toNatClampNeg)) ((σ 22 0 0 ((((6 * x2)) + ((σ 24 0 0 ((((6 * x2)) + x3)).toNatClampNeg)))).toNatClampNeg))) else none) else none) else f_X5_findGroups_115 N k2 k23 k31 (f_X5_findGroups_39 N k2 k23 k31 n) σ x2 x3 ((σ 22 0 0 ((((6 * x2)) + x3)).toNatClampNeg)) ((σ 22 0 0 ((((6 * x2)) + ((σ 24 0 0 ((((6 * x2)) + x3)).toNatClampNeg)))).toNatClampNeg))) else none) else none)) else none)) else none)
def f_X5_findGroups_31 (N : Nat) (k2 : ks_S → Int32 → Option ks_S) (k23 : ks_S → Int32 → Option ks_S) : Nat → ks_S → Int32 → Int32 → Option ks_S
  | 0, _, _, _ => none
  | n + 1, σ, x1, x2 => (if 16 ≤ x2 then k23 σ x1 else f_X5_findGroups_39 N k2 k23 (f_X5_findGroups_31 N k2 k23 n) N σ x1 x2 0)
def f_X5_findGroups_23 (N : Nat) (k2 : ks_S → Int32 → Option ks_S) : Nat → ks_S → Int32 → Option ks_S
  | 0, _, _ => none
  | n + 1, σ, x1 => (if x1 = 0 then some σ else f_X5_findGroups_31 N k2 (f_X5_findGroups_23 N k2 n) N σ 0 0)
def f_X5_findGroups_2 (N : Nat) : Nat → ks_S → Int32 → Option ks_S
  | 0, _, _ => none
  | n + 1, σ, x1 => (if 8 ≤ x1 then f_X5_findGroups_23 N (f_X5_findGroups_2 N n) N σ 1 else (if ks_in x1 8 = true then f_X5_findGroups_2 N n ((ks_up σ 25 0 0 x1.toNatClampNeg x1)) ((x1 + 1)) else none))
def f_X5_findGroups (N : Nat) (σ : ks_S)  : Option ks_S :=
  f_X5_findGroups_2 N N σ 0
theorem in_X5_findGroups_5 : ∀ w ∈ wsX50, w ∈ wsX5_findGroups := by decide +kernel
set_option maxHeartbeats 4000000 in
set_option maxRecDepth 100000 in
theorem t_X5_findGroups_120 {p : Program} {l : Launch} {e : Env} {s : State} {m : MethodId} {args : Array Value} {below : List Frame} {meth : Method} {c : Code} {D : va_G} {cy : Nat → ClassId} {ad : ks_A} {En : Nat → Prop} {n0 : Nat → Prop} {σ0 : ks_S} {o : Int64} {N : Nat} {out : ks_S} (C : ks_M p s m args meth c D cy ad En (fun k => ks_g k = 1) n0 σ0 o wsX5_findGroups cX5_findGroups RX5 8 (none)) {k2 : ks_S → Int32 → Option ks_S} {k23 : ks_S → Int32 → Option ks_S} {k31 : ks_S → Int32 → Int32 → Option ks_S} {k39 : ks_S → Int32 → Int32 → Int32 → Option ks_S} (hk2 : ∀ (σ : ks_S) (x1 : Int32), k2 σ x1 = some out → ∀ {H : Heap} {locs : List Loc} {ls : Array Slot}, ks_W D cy ad En σ o H → va_S (ks_F n0) s.heap H locs → lv_has ls 8 [(0, .ref (ad 14 0 0)), (1, .int x1)] → W p l e (ks_Rm 0 0 0 0) s m args below meth c H locs 0 0 (MQ below (ks_Qv D cy ad En n0 o out) args s 0 0 (ks_F n0)) (F0 m 2 ls [])) (hk23 : ∀ (σ : ks_S) (x1 : Int32), k23 σ x1 = some out → ∀ {H : Heap} {locs : List Loc} {ls : Array Slot}, ks_W D cy ad En σ o H → va_S (ks_F n0) s.heap H locs → lv_has ls 8 [(0, .ref (ad 14 0 0)), (1, .int x1)] → W p l e (ks_Rm 0 0 0 0) s m args below meth c H locs 0 0 (MQ below (ks_Qv D cy ad En n0 o out) args s 0 0 (ks_F n0)) (F0 m 23 ls [])) (hk31 : ∀ (σ : ks_S) (x1 : Int32) (x2 : Int32), k31 σ x1 x2 = some out → ∀ {H : Heap} {locs : List Loc} {ls : Array Slot}, ks_W D cy ad En σ o H → va_S (ks_F n0) s.heap H locs → lv_has ls 8 [(0, .ref (ad 14 0 0)), (1, .int x1), (2, .int x2)] → W p l e (ks_Rm 0 0 0 0) s m args below meth c H locs 0 0 (MQ below (ks_Qv D cy ad En n0 o out) args s 0 0 (ks_F n0)) (F0 m 31 ls [])) (hk39 : ∀ (σ : ks_S) (x1 : Int32) (x2 : Int32) (x3 : Int32), k39 σ x1 x2 x3 = some out → ∀ {H : Heap} {locs : List Loc} {ls : Array Slot}, ks_W D cy ad En σ o H → va_S (ks_F n0) s.heap H locs → lv_has ls 8 [(0, .ref (ad 14 0 0)), (1, .int x1), (2, .int x2), (3, .int x3)] → W p l e (ks_Rm 0 0 0 0) s m args below meth c H locs 0 0 (MQ below (ks_Qv D cy ad En n0 o out) args s 0 0 (ks_F n0)) (F0 m 39 ls [])) {σ : ks_S} {x2 : Int32} {x3 : Int32} {x5 : Int32} {x6 : Int32} {xs0 : Int32}  (hf : f_X5_findGroups_120 N k2 k23 k31 k39 σ x2 x3 x5 x6 xs0 = some out) {H : Heap} {locs : List Loc} {ls : Array Slot} (hW : ks_W D cy ad En σ o H) (hS : va_S (ks_F n0) s.heap H locs) (hl : lv_has ls 8 [(0, .ref (ad 14 0 0)), (2, .int x2), (3, .int x3), (5, .int x5), (6, .int x6)]) : W p l e (ks_Rm 0 0 0 0) s m args below meth c H locs 0 0 (MQ below (ks_Qv D cy ad En n0 o out) args s 0 0 (ks_F n0)) (F0 m 120 ls [.int xs0]) := by
  obtain ⟨hx, hb, hml, hr, hown, hts, hlocks, hG, hU0, hE⟩ := id C
  have hK := hU0.2.2
  unfold f_X5_findGroups_120 at hf
  refine lv_istore_n (lv' := [(1, .int xs0), (0, .ref (ad 14 0 0)), (2, .int x2), (3, .int x3), (5, .int x5), (6, .int x6)]) hx hb dX5_findGroups_120 rfl hl (by decide) rfl (fun ls hl => ?_)
  refine lv_aload_n hx hb dX5_findGroups_121 rfl (lv_at hl 1 rfl) ?_
  refine va_get (D := D) (ci := 5) (v := .ref (ad 25 0 0)) (C := RX5) (T := TX5) (N := 34) hx hb hts in_X5_findGroups_5 hown hK (ks_P1 hW (ks_v14 (i := 0) (j := 0) (hE 14 rfl)) (ks_c14 cy ad o 0 0 _)) 0 rfl rfl 11 (by decide) (hts (.fieldLink RX5 40 "SpinKernelModel" "groups" "[I") (by decide +kernel)) (fun _ h => h) rfl dX5_findGroups_122 ?_
  refine lv_iload hx hb dX5_findGroups_125 (lv_at hl 4 rfl) ?_
  obtain ⟨hi11, hf⟩ := ks_guard hf
  refine ks_iald hx hb hK hW (ks_v25 (i := 0) (j := 0) (hE 25 rfl)) (ks_c25 cy ad o 0 0 _) hi11 dX5_findGroups_127 ?_
  refine lv_aload_n hx hb dX5_findGroups_128 rfl (lv_at hl 1 rfl) ?_
  refine va_get (D := D) (ci := 5) (v := .ref (ad 25 0 0)) (C := RX5) (T := TX5) (N := 34) hx hb hts in_X5_findGroups_5 hown hK (ks_P1 hW (ks_v14 (i := 0) (j := 0) (hE 14 rfl)) (ks_c14 cy ad o 0 0 _)) 0 rfl rfl 11 (by decide) (hts (.fieldLink RX5 40 "SpinKernelModel" "groups" "[I") (by decide +kernel)) (fun _ h => h) rfl dX5_findGroups_129 ?_
  refine lv_iload hx hb dX5_findGroups_132 (lv_at hl 5 rfl) ?_
  obtain ⟨hi12, hf⟩ := ks_guard hf
  refine ks_iald hx hb hK hW (ks_v25 (i := 0) (j := 0) (hE 25 rfl)) (ks_c25 cy ad o 0 0 _) hi12 dX5_findGroups_134 ?_
  refine lv_icmp_ge (tgt := 148) hx hb dX5_findGroups_135 (by decide) (fun c13 => ?_) (fun c13 => ?_)
  · rw [if_pos c13] at hf
    refine lv_aload_n hx hb dX5_findGroups_148 rfl (lv_at hl 1 rfl) ?_
    refine va_get (D := D) (ci := 5) (v := .ref (ad 25 0 0)) (C := RX5) (T := TX5) (N := 34) hx hb hts in_X5_findGroups_5 hown hK (ks_P1 hW (ks_v14 (i := 0) (j := 0) (hE 14 rfl)) (ks_c14 cy ad o 0 0 _)) 0 rfl rfl 11 (by decide) (hts (.fieldLink RX5 40 "SpinKernelModel" "groups" "[I") (by decide +kernel)) (fun _ h => h) rfl dX5_findGroups_149 ?_
    refine lv_iload hx hb dX5_findGroups_152 (lv_at hl 5 rfl) ?_
    obtain ⟨hi14, hf⟩ := ks_guard hf
    refine ks_iald hx hb hK hW (ks_v25 (i := 0) (j := 0) (hE 25 rfl)) (ks_c25 cy ad o 0 0 _) hi14 dX5_findGroups_154 ?_
    refine lv_istore (lv' := [(7, .int (σ 25 0 0 x6.toNatClampNeg)), (1, .int xs0), (0, .ref (ad 14 0 0)), (2, .int x2), (3, .int x3), (5, .int x5), (6, .int x6)]) hx hb dX5_findGroups_155 hl (by decide) rfl (fun ls hl => ?_)
    refine lv_aload_n hx hb dX5_findGroups_157 rfl (lv_at hl 2 rfl) ?_
    refine va_get (D := D) (ci := 5) (v := .ref (ad 25 0 0)) (C := RX5) (T := TX5) (N := 34) hx hb hts in_X5_findGroups_5 hown hK (ks_P1 hW (ks_v14 (i := 0) (j := 0) (hE 14 rfl)) (ks_c14 cy ad o 0 0 _)) 0 rfl rfl 11 (by decide) (hts (.fieldLink RX5 40 "SpinKernelModel" "groups" "[I") (by decide +kernel)) (fun _ h => h) rfl dX5_findGroups_158 ?_
    refine lv_iload hx hb dX5_findGroups_161 (lv_at hl 5 rfl) ?_
    refine lv_iload hx hb dX5_findGroups_163 (lv_at hl 0 rfl) ?_
    obtain ⟨hi15, hf⟩ := ks_guard hf
    refine ks_iast hx hb hK hG hW hS (ks_v25 (i := 0) (j := 0) (hE 25 rfl)) (fun c => ks_c25 cy ad o 0 0 c) hi15 dX5_findGroups_165 (fun H locs hW hS => ?_)
    refine lv_aload_n hx hb dX5_findGroups_166 rfl (lv_at hl 2 rfl) ?_
    refine va_get (D := D) (ci := 5) (v := .ref (ad 25 0 0)) (C := RX5) (T := TX5) (N := 34) hx hb hts in_X5_findGroups_5 hown hK (ks_P1 hW (ks_v14 (i := 0) (j := 0) (hE 14 rfl)) (ks_c14 cy ad o 0 0 _)) 0 rfl rfl 11 (by decide) (hts (.fieldLink RX5 40 "SpinKernelModel" "groups" "[I") (by decide +kernel)) (fun _ h => h) rfl dX5_findGroups_167 ?_
    refine lv_iload hx hb dX5_findGroups_170 (lv_at hl 6 rfl) ?_
    refine lv_iload hx hb dX5_findGroups_172 (lv_at hl 0 rfl) ?_
    obtain ⟨hi16, hf⟩ := ks_guard hf
    refine ks_iast hx hb hK hG hW hS (ks_v25 (i := 0) (j := 0) (hE 25 rfl)) (fun c => ks_c25 cy ad o 0 0 c) hi16 dX5_findGroups_174 (fun H locs hW hS => ?_)
    refine lv_iinc (v := (x3 + 1)) (lv' := [(3, .int (x3 + 1)), (7, .int (σ 25 0 0 x6.toNatClampNeg)), (1, .int xs0), (0, .ref (ad 14 0 0)), (2, .int x2), (5, .int x5), (6, .int x6)]) hx hb dX5_findGroups_175 hl (k := 4) rfl rfl (by decide) rfl (fun ls hl => ?_)
    refine lv_goto (tgt := 39) hx hb dX5_findGroups_178 (by decide) ?_
    exact hk39 _ _ _ _ hf hW hS (lv_sub hl [3, 2, 4, 0] rfl)
  · rw [if_neg c13] at hf
    refine lv_aload_n hx hb dX5_findGroups_138 rfl (lv_at hl 1 rfl) ?_
    refine va_get (D := D) (ci := 5) (v := .ref (ad 25 0 0)) (C := RX5) (T := TX5) (N := 34) hx hb hts in_X5_findGroups_5 hown hK (ks_P1 hW (ks_v14 (i := 0) (j := 0) (hE 14 rfl)) (ks_c14 cy ad o 0 0 _)) 0 rfl rfl 11 (by decide) (hts (.fieldLink RX5 40 "SpinKernelModel" "groups" "[I") (by decide +kernel)) (fun _ h => h) rfl dX5_findGroups_139 ?_
    refine lv_iload hx hb dX5_findGroups_142 (lv_at hl 4 rfl) ?_
    obtain ⟨hi17, hf⟩ := ks_guard hf
    refine ks_iald hx hb hK hW (ks_v25 (i := 0) (j := 0) (hE 25 rfl)) (ks_c25 cy ad o 0 0 _) hi17 dX5_findGroups_144 ?_
    refine lv_goto (tgt := 155) hx hb dX5_findGroups_145 (by decide) ?_
    refine lv_istore (lv' := [(7, .int (σ 25 0 0 x5.toNatClampNeg)), (1, .int xs0), (0, .ref (ad 14 0 0)), (2, .int x2), (3, .int x3), (5, .int x5), (6, .int x6)]) hx hb dX5_findGroups_155 hl (by decide) rfl (fun ls hl => ?_)
    refine lv_aload_n hx hb dX5_findGroups_157 rfl (lv_at hl 2 rfl) ?_
    refine va_get (D := D) (ci := 5) (v := .ref (ad 25 0 0)) (C := RX5) (T := TX5) (N := 34) hx hb hts in_X5_findGroups_5 hown hK (ks_P1 hW (ks_v14 (i := 0) (j := 0) (hE 14 rfl)) (ks_c14 cy ad o 0 0 _)) 0 rfl rfl 11 (by decide) (hts (.fieldLink RX5 40 "SpinKernelModel" "groups" "[I") (by decide +kernel)) (fun _ h => h) rfl dX5_findGroups_158 ?_
    refine lv_iload hx hb dX5_findGroups_161 (lv_at hl 5 rfl) ?_
    refine lv_iload hx hb dX5_findGroups_163 (lv_at hl 0 rfl) ?_
    obtain ⟨hi18, hf⟩ := ks_guard hf
    refine ks_iast hx hb hK hG hW hS (ks_v25 (i := 0) (j := 0) (hE 25 rfl)) (fun c => ks_c25 cy ad o 0 0 c) hi18 dX5_findGroups_165 (fun H locs hW hS => ?_)
    refine lv_aload_n hx hb dX5_findGroups_166 rfl (lv_at hl 2 rfl) ?_
    refine va_get (D := D) (ci := 5) (v := .ref (ad 25 0 0)) (C := RX5) (T := TX5) (N := 34) hx hb hts in_X5_findGroups_5 hown hK (ks_P1 hW (ks_v14 (i := 0) (j := 0) (hE 14 rfl)) (ks_c14 cy ad o 0 0 _)) 0 rfl rfl 11 (by decide) (hts (.fieldLink RX5 40 "SpinKernelModel" "groups" "[I") (by decide +kernel)) (fun _ h => h) rfl dX5_findGroups_167 ?_
    refine lv_iload hx hb dX5_findGroups_170 (lv_at hl 6 rfl) ?_
    refine lv_iload hx hb dX5_findGroups_172 (lv_at hl 0 rfl) ?_
    obtain ⟨hi19, hf⟩ := ks_guard hf
    refine ks_iast hx hb hK hG hW hS (ks_v25 (i := 0) (j := 0) (hE 25 rfl)) (fun c => ks_c25 cy ad o 0 0 c) hi19 dX5_findGroups_174 (fun H locs hW hS => ?_)
    refine lv_iinc (v := (x3 + 1)) (lv' := [(3, .int (x3 + 1)), (7, .int (σ 25 0 0 x5.toNatClampNeg)), (1, .int xs0), (0, .ref (ad 14 0 0)), (2, .int x2), (5, .int x5), (6, .int x6)]) hx hb dX5_findGroups_175 hl (k := 4) rfl rfl (by decide) rfl (fun ls hl => ?_)
    refine lv_goto (tgt := 39) hx hb dX5_findGroups_178 (by decide) ?_
    exact hk39 _ _ _ _ hf hW hS (lv_sub hl [3, 2, 4, 0] rfl)
set_option maxHeartbeats 4000000 in
set_option maxRecDepth 100000 in
theorem t_X5_findGroups_115 {p : Program} {l : Launch} {e : Env} {s : State} {m : MethodId} {args : Array Value} {below : List Frame} {meth : Method} {c : Code} {D : va_G} {cy : Nat → ClassId} {ad : ks_A} {En : Nat → Prop} {n0 : Nat → Prop} {σ0 : ks_S} {o : Int64} {N : Nat} {out : ks_S} (C : ks_M p s m args meth c D cy ad En (fun k => ks_g k = 1) n0 σ0 o wsX5_findGroups cX5_findGroups RX5 8 (none)) {k2 : ks_S → Int32 → Option ks_S} {k23 : ks_S → Int32 → Option ks_S} {k31 : ks_S → Int32 → Int32 → Option ks_S} {k39 : ks_S → Int32 → Int32 → Int32 → Option ks_S} (hk2 : ∀ (σ : ks_S) (x1 : Int32), k2 σ x1 = some out → ∀ {H : Heap} {locs : List Loc} {ls : Array Slot}, ks_W D cy ad En σ o H → va_S (ks_F n0) s.heap H locs → lv_has ls 8 [(0, .ref (ad 14 0 0)), (1, .int x1)] → W p l e (ks_Rm 0 0 0 0) s m args below meth c H locs 0 0 (MQ below (ks_Qv D cy ad En n0 o out) args s 0 0 (ks_F n0)) (F0 m 2 ls [])) (hk23 : ∀ (σ : ks_S) (x1 : Int32), k23 σ x1 = some out → ∀ {H : Heap} {locs : List Loc} {ls : Array Slot}, ks_W D cy ad En σ o H → va_S (ks_F n0) s.heap H locs → lv_has ls 8 [(0, .ref (ad 14 0 0)), (1, .int x1)] → W p l e (ks_Rm 0 0 0 0) s m args below meth c H locs 0 0 (MQ below (ks_Qv D cy ad En n0 o out) args s 0 0 (ks_F n0)) (F0 m 23 ls [])) (hk31 : ∀ (σ : ks_S) (x1 : Int32) (x2 : Int32), k31 σ x1 x2 = some out → ∀ {H : Heap} {locs : List Loc} {ls : Array Slot}, ks_W D cy ad En σ o H → va_S (ks_F n0) s.heap H locs → lv_has ls 8 [(0, .ref (ad 14 0 0)), (1, .int x1), (2, .int x2)] → W p l e (ks_Rm 0 0 0 0) s m args below meth c H locs 0 0 (MQ below (ks_Qv D cy ad En n0 o out) args s 0 0 (ks_F n0)) (F0 m 31 ls [])) (hk39 : ∀ (σ : ks_S) (x1 : Int32) (x2 : Int32) (x3 : Int32), k39 σ x1 x2 x3 = some out → ∀ {H : Heap} {locs : List Loc} {ls : Array Slot}, ks_W D cy ad En σ o H → va_S (ks_F n0) s.heap H locs → lv_has ls 8 [(0, .ref (ad 14 0 0)), (1, .int x1), (2, .int x2), (3, .int x3)] → W p l e (ks_Rm 0 0 0 0) s m args below meth c H locs 0 0 (MQ below (ks_Qv D cy ad En n0 o out) args s 0 0 (ks_F n0)) (F0 m 39 ls [])) {σ : ks_S} {x2 : Int32} {x3 : Int32} {x5 : Int32} {x6 : Int32}  (hf : f_X5_findGroups_115 N k2 k23 k31 k39 σ x2 x3 x5 x6 = some out) {H : Heap} {locs : List Loc} {ls : Array Slot} (hW : ks_W D cy ad En σ o H) (hS : va_S (ks_F n0) s.heap H locs) (hl : lv_has ls 8 [(0, .ref (ad 14 0 0)), (2, .int x2), (3, .int x3), (5, .int x5), (6, .int x6)]) : W p l e (ks_Rm 0 0 0 0) s m args below meth c H locs 0 0 (MQ below (ks_Qv D cy ad En n0 o out) args s 0 0 (ks_F n0)) (F0 m 115 ls []) := by
  obtain ⟨hx, hb, hml, hr, hown, hts, hlocks, hG, hU0, hE⟩ := id C
  have hK := hU0.2.2
  unfold f_X5_findGroups_115 at hf
  refine lv_iconst (v := 1) hx hb dX5_findGroups_115 (by decide) ?_
  refine lv_goto (tgt := 120) hx hb dX5_findGroups_116 (by decide) ?_
  exact t_X5_findGroups_120 C hk2 hk23 hk31 hk39  hf hW hS (lv_sub hl [0, 1, 2, 3, 4] rfl)
set_option maxHeartbeats 4000000 in
set_option maxRecDepth 100000 in
theorem t_X5_findGroups_39 {p : Program} {l : Launch} {e : Env} {s : State} {m : MethodId} {args : Array Value} {below : List Frame} {meth : Method} {c : Code} {D : va_G} {cy : Nat → ClassId} {ad : ks_A} {En : Nat → Prop} {n0 : Nat → Prop} {σ0 : ks_S} {o : Int64} {N : Nat} {out : ks_S} (C : ks_M p s m args meth c D cy ad En (fun k => ks_g k = 1) n0 σ0 o wsX5_findGroups cX5_findGroups RX5 8 (none)) {k2 : ks_S → Int32 → Option ks_S} {k23 : ks_S → Int32 → Option ks_S} {k31 : ks_S → Int32 → Int32 → Option ks_S} (hk2 : ∀ (σ : ks_S) (x1 : Int32), k2 σ x1 = some out → ∀ {H : Heap} {locs : List Loc} {ls : Array Slot}, ks_W D cy ad En σ o H → va_S (ks_F n0) s.heap H locs → lv_has ls 8 [(0, .ref (ad 14 0 0)), (1, .int x1)] → W p l e (ks_Rm 0 0 0 0) s m args below meth c H locs 0 0 (MQ below (ks_Qv D cy ad En n0 o out) args s 0 0 (ks_F n0)) (F0 m 2 ls [])) (hk23 : ∀ (σ : ks_S) (x1 : Int32), k23 σ x1 = some out → ∀ {H : Heap} {locs : List Loc} {ls : Array Slot}, ks_W D cy ad En σ o H → va_S (ks_F n0) s.heap H locs → lv_has ls 8 [(0, .ref (ad 14 0 0)), (1, .int x1)] → W p l e (ks_Rm 0 0 0 0) s m args below meth c H locs 0 0 (MQ below (ks_Qv D cy ad En n0 o out) args s 0 0 (ks_F n0)) (F0 m 23 ls [])) (hk31 : ∀ (σ : ks_S) (x1 : Int32) (x2 : Int32), k31 σ x1 x2 = some out → ∀ {H : Heap} {locs : List Loc} {ls : Array Slot}, ks_W D cy ad En σ o H → va_S (ks_F n0) s.heap H locs → lv_has ls 8 [(0, .ref (ad 14 0 0)), (1, .int x1), (2, .int x2)] → W p l e (ks_Rm 0 0 0 0) s m args below meth c H locs 0 0 (MQ below (ks_Qv D cy ad En n0 o out) args s 0 0 (ks_F n0)) (F0 m 31 ls [])) : ∀ (n : Nat) (σ : ks_S) (x1 : Int32) (x2 : Int32) (x3 : Int32), f_X5_findGroups_39 N k2 k23 k31 n σ x1 x2 x3 = some out → ∀ {H : Heap} {locs : List Loc} {ls : Array Slot}, ks_W D cy ad En σ o H → va_S (ks_F n0) s.heap H locs → lv_has ls 8 [(0, .ref (ad 14 0 0)), (1, .int x1), (2, .int x2), (3, .int x3)] → W p l e (ks_Rm 0 0 0 0) s m args below meth c H locs 0 0 (MQ below (ks_Qv D cy ad En n0 o out) args s 0 0 (ks_F n0)) (F0 m 39 ls []) := by
  obtain ⟨hx, hb, hml, hr, hown, hts, hlocks, hG, hU0, hE⟩ := id C
  have hK := hU0.2.2
  intro n
  induction n with
  | zero => intro σ x1 x2 x3; intro  hf; exact absurd hf (by simp [f_X5_findGroups_39])
  | succ n hk39 =>
    intro σ x1 x2 x3  hf H locs ls hW hS hl
    rw [f_X5_findGroups_39] at hf
    refine lv_iload_n hx hb dX5_findGroups_39 rfl (lv_at hl 3 rfl) ?_
    refine lv_aload_n hx hb dX5_findGroups_40 rfl (lv_at hl 0 rfl) ?_
    refine va_get (D := D) (ci := 5) (v := .ref (ad 20 0 0)) (C := RX5) (T := TX5) (N := 34) hx hb hts in_X5_findGroups_5 hown hK (ks_P1 hW (ks_v14 (i := 0) (j := 0) (hE 14 rfl)) (ks_c14 cy ad o 0 0 _)) 0 rfl rfl 6 (by decide) (hts (.fieldLink RX5 25 "SpinKernelModel" "counts" "[I") (by decide +kernel)) (fun _ h => h) rfl dX5_findGroups_41 ?_
    refine lv_iload_n hx hb dX5_findGroups_44 rfl (lv_at hl 2 rfl) ?_
    obtain ⟨hi4, hf⟩ := ks_guard hf
    refine ks_iald hx hb hK hW (ks_v20 (i := 0) (j := 0) (hE 20 rfl)) (ks_c20 cy ad o 0 0 _) hi4 dX5_findGroups_45 ?_
    refine lv_icmp_ge (tgt := 181) hx hb dX5_findGroups_46 (by decide) (fun c5 => ?_) (fun c5 => ?_)
    · rw [if_pos c5] at hf
      refine lv_iinc (v := (x2 + 1)) (lv' := [(2, .int (x2 + 1)), (0, .ref (ad 14 0 0)), (1, .int x1), (3, .int x3)]) hx hb dX5_findGroups_181 hl (k := 2) rfl rfl (by decide) rfl (fun ls hl => ?_)
      refine lv_goto (tgt := 31) hx hb dX5_findGroups_184 (by decide) ?_
      exact hk31 _ _ _ hf hW hS (lv_sub hl [1, 2, 0] rfl)
    · rw [if_neg c5] at hf
      refine lv_aload_n hx hb dX5_findGroups_49 rfl (lv_at hl 0 rfl) ?_
      refine va_get (D := D) (ci := 5) (v := .ref (ad 24 0 0)) (C := RX5) (T := TX5) (N := 34) hx hb hts in_X5_findGroups_5 hown hK (ks_P1 hW (ks_v14 (i := 0) (j := 0) (hE 14 rfl)) (ks_c14 cy ad o 0 0 _)) 0 rfl rfl 10 (by decide) (hts (.fieldLink RX5 37 "SpinKernelModel" "ins" "[I") (by decide +kernel)) (fun _ h => h) rfl dX5_findGroups_50 ?_
      refine lv_bipush (v := 6) hx hb dX5_findGroups_53 (by decide) ?_
      refine lv_iload_n hx hb dX5_findGroups_55 rfl (lv_at hl 2 rfl) ?_
      refine lv_imul hx hb dX5_findGroups_56 ?_
      refine lv_iload_n hx hb dX5_findGroups_57 rfl (lv_at hl 3 rfl) ?_
      refine lv_iadd hx hb dX5_findGroups_58 ?_
      obtain ⟨hi6, hf⟩ := ks_guard hf
      refine ks_iald hx hb hK hW (ks_v24 (i := 0) (j := 0) (hE 24 rfl)) (ks_c24 cy ad o 0 0 _) hi6 dX5_findGroups_59 ?_
      refine lv_istore (lv' := [(4, .int (σ 24 0 0 ((((6 * x2)) + x3)).toNatClampNeg)), (0, .ref (ad 14 0 0)), (1, .int x1), (2, .int x2), (3, .int x3)]) hx hb dX5_findGroups_60 hl (by decide) rfl (fun ls hl => ?_)
      refine lv_iload hx hb dX5_findGroups_62 (lv_at hl 0 rfl) ?_
      refine lv_if_lt (tgt := 175) hx hb dX5_findGroups_64 (by decide) (fun c7 => ?_) (fun c7 => ?_)
      · rw [if_pos c7] at hf
        refine lv_iinc (v := (x3 + 1)) (lv' := [(3, .int (x3 + 1)), (4, .int (σ 24 0 0 ((((6 * x2)) + x3)).toNatClampNeg)), (0, .ref (ad 14 0 0)), (1, .int x1), (2, .int x2)]) hx hb dX5_findGroups_175 hl (k := 4) rfl rfl (by decide) rfl (fun ls hl => ?_)
        refine lv_goto (tgt := 39) hx hb dX5_findGroups_178 (by decide) ?_
        exact hk39 _ _ _ _ hf hW hS (lv_sub hl [2, 3, 4, 0] rfl)
      · rw [if_neg c7] at hf
        refine lv_aload_n hx hb dX5_findGroups_67 rfl (lv_at hl 1 rfl) ?_
        refine va_get (D := D) (ci := 5) (v := .ref (ad 22 0 0)) (C := RX5) (T := TX5) (N := 34) hx hb hts in_X5_findGroups_5 hown hK (ks_P1 hW (ks_v14 (i := 0) (j := 0) (hE 14 rfl)) (ks_c14 cy ad o 0 0 _)) 0 rfl rfl 8 (by decide) (hts (.fieldLink RX5 31 "SpinKernelModel" "locks" "[I") (by decide +kernel)) (fun _ h => h) rfl dX5_findGroups_68 ?_
        refine lv_bipush (v := 6) hx hb dX5_findGroups_71 (by decide) ?_
        refine lv_iload_n hx hb dX5_findGroups_73 rfl (lv_at hl 3 rfl) ?_
        refine lv_imul hx hb dX5_findGroups_74 ?_
        refine lv_iload_n hx hb dX5_findGroups_75 rfl (lv_at hl 4 rfl) ?_
        refine lv_iadd hx hb dX5_findGroups_76 ?_
        obtain ⟨hi8, hf⟩ := ks_guard hf
        refine ks_iald hx hb hK hW (ks_v22 (i := 0) (j := 0) (hE 22 rfl)) (ks_c22 cy ad o 0 0 _) hi8 dX5_findGroups_77 ?_
        refine lv_istore (lv' := [(5, .int (σ 22 0 0 ((((6 * x2)) + x3)).toNatClampNeg)), (4, .int (σ 24 0 0 ((((6 * x2)) + x3)).toNatClampNeg)), (0, .ref (ad 14 0 0)), (1, .int x1), (2, .int x2), (3, .int x3)]) hx hb dX5_findGroups_78 hl (by decide) rfl (fun ls hl => ?_)
        refine lv_aload_n hx hb dX5_findGroups_80 rfl (lv_at hl 2 rfl) ?_
        refine va_get (D := D) (ci := 5) (v := .ref (ad 22 0 0)) (C := RX5) (T := TX5) (N := 34) hx hb hts in_X5_findGroups_5 hown hK (ks_P1 hW (ks_v14 (i := 0) (j := 0) (hE 14 rfl)) (ks_c14 cy ad o 0 0 _)) 0 rfl rfl 8 (by decide) (hts (.fieldLink RX5 31 "SpinKernelModel" "locks" "[I") (by decide +kernel)) (fun _ h => h) rfl dX5_findGroups_81 ?_
        refine lv_bipush (v := 6) hx hb dX5_findGroups_84 (by decide) ?_
        refine lv_iload_n hx hb dX5_findGroups_86 rfl (lv_at hl 4 rfl) ?_
        refine lv_imul hx hb dX5_findGroups_87 ?_
        refine lv_iload hx hb dX5_findGroups_88 (lv_at hl 1 rfl) ?_
        refine lv_iadd hx hb dX5_findGroups_90 ?_
        obtain ⟨hi9, hf⟩ := ks_guard hf
        refine ks_iald hx hb hK hW (ks_v22 (i := 0) (j := 0) (hE 22 rfl)) (ks_c22 cy ad o 0 0 _) hi9 dX5_findGroups_91 ?_
        refine lv_istore (lv' := [(6, .int (σ 22 0 0 ((((6 * x2)) + ((σ 24 0 0 ((((6 * x2)) + x3)).toNatClampNeg)))).toNatClampNeg)), (5, .int (σ 22 0 0 ((((6 * x2)) + x3)).toNatClampNeg)), (4, .int (σ 24 0 0 ((((6 * x2)) + x3)).toNatClampNeg)), (0, .ref (ad 14 0 0)), (1, .int x1), (2, .int x2), (3, .int x3)]) hx hb dX5_findGroups_92 hl (by decide) rfl (fun ls hl => ?_)
        refine lv_iload_n hx hb dX5_findGroups_94 rfl (lv_at hl 4 rfl) ?_
        refine lv_if_ne (tgt := 115) hx hb dX5_findGroups_95 (by decide) (fun c10 => ?_) (fun c10 => ?_)
        · rw [if_neg c10] at hf
          exact t_X5_findGroups_115 C hk2 hk23 hk31 hk39  hf hW hS (lv_sub hl [3, 5, 6, 1, 0] rfl)
        · rw [if_pos c10] at hf
          refine lv_aload_n hx hb dX5_findGroups_98 rfl (lv_at hl 3 rfl) ?_
          refine va_get (D := D) (ci := 5) (v := .ref (ad 25 0 0)) (C := RX5) (T := TX5) (N := 34) hx hb hts in_X5_findGroups_5 hown hK (ks_P1 hW (ks_v14 (i := 0) (j := 0) (hE 14 rfl)) (ks_c14 cy ad o 0 0 _)) 0 rfl rfl 11 (by decide) (hts (.fieldLink RX5 40 "SpinKernelModel" "groups" "[I") (by decide +kernel)) (fun _ h => h) rfl dX5_findGroups_99 ?_
          refine lv_iload hx hb dX5_findGroups_102 (lv_at hl 1 rfl) ?_
          obtain ⟨hi20, hf⟩ := ks_guard hf
          refine ks_iald hx hb hK hW (ks_v25 (i := 0) (j := 0) (hE 25 rfl)) (ks_c25 cy ad o 0 0 _) hi20 dX5_findGroups_104 ?_
          refine lv_aload_n hx hb dX5_findGroups_105 rfl (lv_at hl 3 rfl) ?_
          refine va_get (D := D) (ci := 5) (v := .ref (ad 25 0 0)) (C := RX5) (T := TX5) (N := 34) hx hb hts in_X5_findGroups_5 hown hK (ks_P1 hW (ks_v14 (i := 0) (j := 0) (hE 14 rfl)) (ks_c14 cy ad o 0 0 _)) 0 rfl rfl 11 (by decide) (hts (.fieldLink RX5 40 "SpinKernelModel" "groups" "[I") (by decide +kernel)) (fun _ h => h) rfl dX5_findGroups_106 ?_
          refine lv_iload hx hb dX5_findGroups_109 (lv_at hl 0 rfl) ?_
          obtain ⟨hi21, hf⟩ := ks_guard hf
          refine ks_iald hx hb hK hW (ks_v25 (i := 0) (j := 0) (hE 25 rfl)) (ks_c25 cy ad o 0 0 _) hi21 dX5_findGroups_111 ?_
          refine lv_icmp_eq (tgt := 119) hx hb dX5_findGroups_112 (by decide) (fun c22 => ?_) (fun c22 => ?_)
          · rw [if_pos c22] at hf
            refine lv_iconst (v := 0) hx hb dX5_findGroups_119 (by decide) ?_
            exact t_X5_findGroups_120 C hk2 hk23 hk31 hk39  hf hW hS (lv_sub hl [3, 5, 6, 1, 0] rfl)
          · rw [if_neg c22] at hf
            exact t_X5_findGroups_115 C hk2 hk23 hk31 hk39  hf hW hS (lv_sub hl [3, 5, 6, 1, 0] rfl)
set_option maxHeartbeats 4000000 in
set_option maxRecDepth 100000 in
theorem t_X5_findGroups_31 {p : Program} {l : Launch} {e : Env} {s : State} {m : MethodId} {args : Array Value} {below : List Frame} {meth : Method} {c : Code} {D : va_G} {cy : Nat → ClassId} {ad : ks_A} {En : Nat → Prop} {n0 : Nat → Prop} {σ0 : ks_S} {o : Int64} {N : Nat} {out : ks_S} (C : ks_M p s m args meth c D cy ad En (fun k => ks_g k = 1) n0 σ0 o wsX5_findGroups cX5_findGroups RX5 8 (none)) {k2 : ks_S → Int32 → Option ks_S} {k23 : ks_S → Int32 → Option ks_S} (hk2 : ∀ (σ : ks_S) (x1 : Int32), k2 σ x1 = some out → ∀ {H : Heap} {locs : List Loc} {ls : Array Slot}, ks_W D cy ad En σ o H → va_S (ks_F n0) s.heap H locs → lv_has ls 8 [(0, .ref (ad 14 0 0)), (1, .int x1)] → W p l e (ks_Rm 0 0 0 0) s m args below meth c H locs 0 0 (MQ below (ks_Qv D cy ad En n0 o out) args s 0 0 (ks_F n0)) (F0 m 2 ls [])) (hk23 : ∀ (σ : ks_S) (x1 : Int32), k23 σ x1 = some out → ∀ {H : Heap} {locs : List Loc} {ls : Array Slot}, ks_W D cy ad En σ o H → va_S (ks_F n0) s.heap H locs → lv_has ls 8 [(0, .ref (ad 14 0 0)), (1, .int x1)] → W p l e (ks_Rm 0 0 0 0) s m args below meth c H locs 0 0 (MQ below (ks_Qv D cy ad En n0 o out) args s 0 0 (ks_F n0)) (F0 m 23 ls [])) : ∀ (n : Nat) (σ : ks_S) (x1 : Int32) (x2 : Int32), f_X5_findGroups_31 N k2 k23 n σ x1 x2 = some out → ∀ {H : Heap} {locs : List Loc} {ls : Array Slot}, ks_W D cy ad En σ o H → va_S (ks_F n0) s.heap H locs → lv_has ls 8 [(0, .ref (ad 14 0 0)), (1, .int x1), (2, .int x2)] → W p l e (ks_Rm 0 0 0 0) s m args below meth c H locs 0 0 (MQ below (ks_Qv D cy ad En n0 o out) args s 0 0 (ks_F n0)) (F0 m 31 ls []) := by
  obtain ⟨hx, hb, hml, hr, hown, hts, hlocks, hG, hU0, hE⟩ := id C
  have hK := hU0.2.2
  intro n
  induction n with
  | zero => intro σ x1 x2; intro  hf; exact absurd hf (by simp [f_X5_findGroups_31])
  | succ n hk31 =>
    intro σ x1 x2  hf H locs ls hW hS hl
    rw [f_X5_findGroups_31] at hf
    refine lv_iload_n hx hb dX5_findGroups_31 rfl (lv_at hl 2 rfl) ?_
    refine lv_bipush (v := 16) hx hb dX5_findGroups_32 (by decide) ?_
    refine lv_icmp_ge (tgt := 187) hx hb dX5_findGroups_34 (by decide) (fun c3 => ?_) (fun c3 => ?_)
    · rw [if_pos c3] at hf
      refine lv_goto (tgt := 23) hx hb dX5_findGroups_187 (by decide) ?_
      exact hk23 _ _ hf hW hS (lv_sub hl [0, 1] rfl)
    · rw [if_neg c3] at hf
      refine lv_iconst (v := 0) hx hb dX5_findGroups_37 (by decide) ?_
      refine lv_istore_n (lv' := [(3, .int 0), (0, .ref (ad 14 0 0)), (1, .int x1), (2, .int x2)]) hx hb dX5_findGroups_38 rfl hl (by decide) rfl (fun ls hl => ?_)
      exact t_X5_findGroups_39 C hk2 hk23 hk31 _ _ _ _ _  hf hW hS (lv_sub hl [1, 2, 3, 0] rfl)
set_option maxHeartbeats 4000000 in
set_option maxRecDepth 100000 in
theorem t_X5_findGroups_23 {p : Program} {l : Launch} {e : Env} {s : State} {m : MethodId} {args : Array Value} {below : List Frame} {meth : Method} {c : Code} {D : va_G} {cy : Nat → ClassId} {ad : ks_A} {En : Nat → Prop} {n0 : Nat → Prop} {σ0 : ks_S} {o : Int64} {N : Nat} {out : ks_S} (C : ks_M p s m args meth c D cy ad En (fun k => ks_g k = 1) n0 σ0 o wsX5_findGroups cX5_findGroups RX5 8 (none)) {k2 : ks_S → Int32 → Option ks_S} (hk2 : ∀ (σ : ks_S) (x1 : Int32), k2 σ x1 = some out → ∀ {H : Heap} {locs : List Loc} {ls : Array Slot}, ks_W D cy ad En σ o H → va_S (ks_F n0) s.heap H locs → lv_has ls 8 [(0, .ref (ad 14 0 0)), (1, .int x1)] → W p l e (ks_Rm 0 0 0 0) s m args below meth c H locs 0 0 (MQ below (ks_Qv D cy ad En n0 o out) args s 0 0 (ks_F n0)) (F0 m 2 ls [])) : ∀ (n : Nat) (σ : ks_S) (x1 : Int32), f_X5_findGroups_23 N k2 n σ x1 = some out → ∀ {H : Heap} {locs : List Loc} {ls : Array Slot}, ks_W D cy ad En σ o H → va_S (ks_F n0) s.heap H locs → lv_has ls 8 [(0, .ref (ad 14 0 0)), (1, .int x1)] → W p l e (ks_Rm 0 0 0 0) s m args below meth c H locs 0 0 (MQ below (ks_Qv D cy ad En n0 o out) args s 0 0 (ks_F n0)) (F0 m 23 ls []) := by
  obtain ⟨hx, hb, hml, hr, hown, hts, hlocks, hG, hU0, hE⟩ := id C
  have hK := hU0.2.2
  intro n
  induction n with
  | zero => intro σ x1; intro  hf; exact absurd hf (by simp [f_X5_findGroups_23])
  | succ n hk23 =>
    intro σ x1  hf H locs ls hW hS hl
    rw [f_X5_findGroups_23] at hf
    refine lv_iload_n hx hb dX5_findGroups_23 rfl (lv_at hl 1 rfl) ?_
    refine lv_if_eq (tgt := 190) hx hb dX5_findGroups_24 (by decide) (fun c2 => ?_) (fun c2 => ?_)
    · rw [if_pos c2] at hf
      exact ks_vret C hf hW hS dX5_findGroups_190
    · rw [if_neg c2] at hf
      refine lv_iconst (v := 0) hx hb dX5_findGroups_27 (by decide) ?_
      refine lv_istore_n (lv' := [(1, .int 0), (0, .ref (ad 14 0 0))]) hx hb dX5_findGroups_28 rfl hl (by decide) rfl (fun ls hl => ?_)
      refine lv_iconst (v := 0) hx hb dX5_findGroups_29 (by decide) ?_
      refine lv_istore_n (lv' := [(2, .int 0), (1, .int 0), (0, .ref (ad 14 0 0))]) hx hb dX5_findGroups_30 rfl hl (by decide) rfl (fun ls hl => ?_)
      exact t_X5_findGroups_31 C hk2 hk23 _ _ _ _  hf hW hS (lv_sub hl [2, 1, 0] rfl)
set_option maxHeartbeats 4000000 in
set_option maxRecDepth 100000 in
theorem t_X5_findGroups_2 {p : Program} {l : Launch} {e : Env} {s : State} {m : MethodId} {args : Array Value} {below : List Frame} {meth : Method} {c : Code} {D : va_G} {cy : Nat → ClassId} {ad : ks_A} {En : Nat → Prop} {n0 : Nat → Prop} {σ0 : ks_S} {o : Int64} {N : Nat} {out : ks_S} (C : ks_M p s m args meth c D cy ad En (fun k => ks_g k = 1) n0 σ0 o wsX5_findGroups cX5_findGroups RX5 8 (none)) : ∀ (n : Nat) (σ : ks_S) (x1 : Int32), f_X5_findGroups_2 N n σ x1 = some out → ∀ {H : Heap} {locs : List Loc} {ls : Array Slot}, ks_W D cy ad En σ o H → va_S (ks_F n0) s.heap H locs → lv_has ls 8 [(0, .ref (ad 14 0 0)), (1, .int x1)] → W p l e (ks_Rm 0 0 0 0) s m args below meth c H locs 0 0 (MQ below (ks_Qv D cy ad En n0 o out) args s 0 0 (ks_F n0)) (F0 m 2 ls []) := by
  obtain ⟨hx, hb, hml, hr, hown, hts, hlocks, hG, hU0, hE⟩ := id C
  have hK := hU0.2.2
  intro n
  induction n with
  | zero => intro σ x1; intro  hf; exact absurd hf (by simp [f_X5_findGroups_2])
  | succ n hk2 =>
    intro σ x1  hf H locs ls hW hS hl
    rw [f_X5_findGroups_2] at hf
    refine lv_iload_n hx hb dX5_findGroups_2 rfl (lv_at hl 1 rfl) ?_
    refine lv_bipush (v := 8) hx hb dX5_findGroups_3 (by decide) ?_
    refine lv_icmp_ge (tgt := 21) hx hb dX5_findGroups_5 (by decide) (fun c1 => ?_) (fun c1 => ?_)
    · rw [if_pos c1] at hf
      refine lv_iconst (v := 1) hx hb dX5_findGroups_21 (by decide) ?_
      refine lv_istore_n (lv' := [(1, .int 1), (0, .ref (ad 14 0 0))]) hx hb dX5_findGroups_22 rfl hl (by decide) rfl (fun ls hl => ?_)
      exact t_X5_findGroups_23 C hk2 _ _ _  hf hW hS (lv_sub hl [1, 0] rfl)
    · rw [if_neg c1] at hf
      refine lv_aload_n hx hb dX5_findGroups_8 rfl (lv_at hl 0 rfl) ?_
      refine va_get (D := D) (ci := 5) (v := .ref (ad 25 0 0)) (C := RX5) (T := TX5) (N := 34) hx hb hts in_X5_findGroups_5 hown hK (ks_P1 hW (ks_v14 (i := 0) (j := 0) (hE 14 rfl)) (ks_c14 cy ad o 0 0 _)) 0 rfl rfl 11 (by decide) (hts (.fieldLink RX5 40 "SpinKernelModel" "groups" "[I") (by decide +kernel)) (fun _ h => h) rfl dX5_findGroups_9 ?_
      refine lv_iload_n hx hb dX5_findGroups_12 rfl (lv_at hl 1 rfl) ?_
      refine lv_iload_n hx hb dX5_findGroups_13 rfl (lv_at hl 1 rfl) ?_
      obtain ⟨hi23, hf⟩ := ks_guard hf
      refine ks_iast hx hb hK hG hW hS (ks_v25 (i := 0) (j := 0) (hE 25 rfl)) (fun c => ks_c25 cy ad o 0 0 c) hi23 dX5_findGroups_14 (fun H locs hW hS => ?_)
      refine lv_iinc (v := (x1 + 1)) (lv' := [(1, .int (x1 + 1)), (0, .ref (ad 14 0 0))]) hx hb dX5_findGroups_15 hl (k := 1) rfl rfl (by decide) rfl (fun ls hl => ?_)
      refine lv_goto (tgt := 2) hx hb dX5_findGroups_18 (by decide) ?_
      exact hk2 _ _ hf hW hS (lv_sub hl [1, 0] rfl)
set_option maxHeartbeats 4000000 in
set_option maxRecDepth 100000 in
theorem t_X5_findGroups {p : Program} {l : Launch} {e : Env} {s : State} {m : MethodId} {args : Array Value} {below : List Frame} {meth : Method} {c : Code} {D : va_G} {cy : Nat → ClassId} {ad : ks_A} {En : Nat → Prop} {n0 : Nat → Prop} {σ0 : ks_S} {o : Int64} {N : Nat} {out : ks_S} (C : ks_M p s m args meth c D cy ad En (fun k => ks_g k = 1) n0 σ0 o wsX5_findGroups cX5_findGroups RX5 8 (none)) {σ : ks_S}   (hf : f_X5_findGroups N σ  = some out) {H : Heap} {locs : List Loc} {ls : Array Slot} (hW : ks_W D cy ad En σ o H) (hS : va_S (ks_F n0) s.heap H locs) (hl : lv_has ls 8 [(0, .ref (ad 14 0 0))]) : W p l e (ks_Rm 0 0 0 0) s m args below meth c H locs 0 0 (MQ below (ks_Qv D cy ad En n0 o out) args s 0 0 (ks_F n0)) (F0 m 0 ls []) := by
  obtain ⟨hx, hb, hml, hr, hown, hts, hlocks, hG, hU0, hE⟩ := id C
  have hK := hU0.2.2
  unfold f_X5_findGroups at hf
  refine lv_iconst (v := 0) hx hb dX5_findGroups_0 (by decide) ?_
  refine lv_istore_n (lv' := [(1, .int 0), (0, .ref (ad 14 0 0))]) hx hb dX5_findGroups_1 rfl hl (by decide) rfl (fun ls hl => ?_)
  exact t_X5_findGroups_2 C _ _ _  hf hW hS (lv_sub hl [1, 0] rfl)
set_option maxHeartbeats 4000000 in
set_option maxRecDepth 100000 in
theorem m_X5_findGroups (l : Launch) (D : va_G) (cy : Nat → ClassId) (ad : ks_A) (En : Nat → Prop) (n0 : Nat → Prop) (hG : ks_G ad En n0) (hE : ∀ k, ks_g k = 1 → En k) (o : Int64) {N : Nat} {σ : ks_S}   {out : ks_S} (hf : f_X5_findGroups N σ  = some out) : Met l yX5_findGroups wsX5_findGroups (ks_Rm 0 0 0 0) (va_Pc [.ref (ad 14 0 0)] (ks_U D cy ad En n0 σ o)) (ks_Qv D cy ad En n0 o out) 0 0 (ks_F n0) := by
  refine Met.ofW (cc := cX5_findGroups) (maxL := 8) (ret := none) (by decide) rfl ?_
  intro p e s m args below meth c s₁ B hml hv
  obtain ⟨rfl, hU⟩ := hv
  have hl := lv_entry ([.ref (ad 14 0 0)]) (n := 8) (Nat.le_of_ble_eq_true rfl)
  rw [lg_entry_eq]
  generalize (lg_sl ([.ref (ad 14 0 0)]) ++ List.replicate (8 - (lg_sl ([.ref (ad 14 0 0)])).length) Slot.unset).toArray = ls at hl ⊢
  exact t_X5_findGroups ⟨B.exec, B.bytes, hml, B.returns, findClass_of_methodNamed B.named, atoms_spec (ws := wsX5_findGroups) B.pre, B.notSynchronized, hG, hU, hE⟩  hf hU.2.1 va_S.rf hl

/-! SpinKernelModel.group(I)I -/
def f_X5_group (N : Nat) (σ : ks_S) (x1 : Int32) : Option (Int32 × ks_S) :=
  ((f_X5_within σ x1 0 7).bind fun (r3, s2) => (if r3 = 0 then ((f_X5_refused s2 1 0 0).bind fun (r15, s14) => (if r15 = 0 then ((f_X5_findGroups N s14).bind fun s18 => (if ks_in x1 8 = true then some ((s18 25 0 0 x1.toNatClampNeg), s18) else none)) else some (0, s14))) else ((f_X5_refused s2 0 0 0).bind fun (r7, s6) => (if r7 = 0 then ((f_X5_findGroups N s6).bind fun s10 => (if ks_in x1 8 = true then some ((s10 25 0 0 x1.toNatClampNeg), s10) else none)) else some (0, s6)))))
theorem in_X5_group_5 : ∀ w ∈ wsX50, w ∈ wsX5_group := by decide +kernel
set_option maxHeartbeats 4000000 in
set_option maxRecDepth 100000 in
theorem t_X5_group {p : Program} {l : Launch} {e : Env} {s : State} {m : MethodId} {args : Array Value} {below : List Frame} {meth : Method} {c : Code} {D : va_G} {cy : Nat → ClassId} {ad : ks_A} {En : Nat → Prop} {n0 : Nat → Prop} {σ0 : ks_S} {o : Int64} {N : Nat} {out : (Int32 × ks_S)} (C : ks_M p s m args meth c D cy ad En (fun k => ks_g k = 1) n0 σ0 o wsX5_group cX5_group RX5 2 (some .int)) {σ : ks_S} {x1 : Int32}  (hf : f_X5_group N σ x1 = some out) {H : Heap} {locs : List Loc} {ls : Array Slot} (hW : ks_W D cy ad En σ o H) (hS : va_S (ks_F n0) s.heap H locs) (hl : lv_has ls 2 [(0, .ref (ad 14 0 0)), (1, .int x1)]) : W p l e (ks_Rm 1 0 0 27) s m args below meth c H locs 0 0 (MQ below (ks_Qi D cy ad En n0 o out) args s 0 0 (ks_F n0)) (F0 m 0 ls []) := by
  obtain ⟨hx, hb, hml, hr, hown, hts, hlocks, hG, hU0, hE⟩ := id C
  have hK := hU0.2.2
  unfold f_X5_group at hf
  refine lv_aload_n hx hb dX5_group_0 rfl (lv_at hl 0 rfl) ?_
  refine lv_iload_n hx hb dX5_group_1 rfl (lv_at hl 1 rfl) ?_
  refine lv_iconst (v := 0) hx hb dX5_group_2 (by decide) ?_
  refine lv_bipush (v := 7) hx hb dX5_group_3 (by decide) ?_
  obtain ⟨⟨r3, s2⟩, hc1, hf⟩ := ks_bind hf
  try dsimp only at hf
  refine ks_calli (va_runS (As := [.int x1, .int 0, .int 7]) (rest := [.ref (ad 14 0 0)]) ⟨hx, hb, hml, hown, hts⟩ (m_X5_within l D cy ad En n0 hG hE o hc1) (va_cwS 3 hts gX5_group_X5_within rfl rfl rfl (by decide +kernel) ⟨(Nat.le_of_ble_eq_true rfl), (Nat.le_of_ble_eq_true rfl)⟩) ⟨ks_U.blind, fun U hU hWm => ⟨rfl, hU0.now hS hW hWm.alike hU⟩⟩ rfl rfl hl.1 rfl (lv_room (Nat.le_of_ble_eq_true rfl)) dX5_group_5 ⟨(Nat.le_of_ble_eq_true rfl), (Nat.le_of_ble_eq_true rfl)⟩) hS (fun H locs hW hS => ?_)
  refine lv_if_ne (tgt := 15) hx hb dX5_group_8 (by decide) (fun c4 => ?_) (fun c4 => ?_)
  · rw [if_neg c4] at hf
    refine lv_iconst (v := 0) hx hb dX5_group_15 (by decide) ?_
    refine lv_iconst (v := 0) hx hb dX5_group_16 (by decide) ?_
    refine lv_iconst (v := 0) hx hb dX5_group_17 (by decide) ?_
    obtain ⟨⟨r7, s6⟩, hc5, hf⟩ := ks_bind hf
    try dsimp only at hf
    refine ks_calli (va_runV (As := [.int 0, .int 0, .int 0]) (rest := []) ⟨hx, hb, hml, hown, hts⟩ (m_X5_refused l D cy ad En n0 hG hE o hc5) (cwV 3 hts gX5_group_X5_refused rfl rfl rfl (by decide +kernel) ⟨(Nat.le_of_ble_eq_true rfl), (Nat.le_of_ble_eq_true rfl)⟩) ⟨ks_U.blind, ks_recv hK hW (ks_v14 (i := 0) (j := 0) (hE 14 rfl)) (ks_c14 cy ad o 0 0 _) rfl, fun U hU hWm => ⟨rfl, hU0.now hS hW hWm.alike hU⟩⟩ rfl rfl hl.1 rfl (lv_room (Nat.le_of_ble_eq_true rfl)) dX5_group_18 ⟨(Nat.le_of_ble_eq_true rfl), (Nat.le_of_ble_eq_true rfl)⟩) hS (fun H locs hW hS => ?_)
    refine lv_if_eq (tgt := 26) hx hb dX5_group_21 (by decide) (fun c8 => ?_) (fun c8 => ?_)
    · rw [if_pos c8] at hf
      refine lv_aload_n hx hb dX5_group_26 rfl (lv_at hl 0 rfl) ?_
      obtain ⟨s10, hc9, hf⟩ := ks_bind hf
      try dsimp only at hf
      refine ks_callv (va_runV (As := []) (rest := []) ⟨hx, hb, hml, hown, hts⟩ (m_X5_findGroups l D cy ad En n0 hG hE o hc9) (cwV 0 hts gX5_group_X5_findGroups rfl rfl rfl (by decide +kernel) ⟨(Nat.le_of_ble_eq_true rfl), (Nat.le_of_ble_eq_true rfl)⟩) ⟨ks_U.blind, ks_recv hK hW (ks_v14 (i := 0) (j := 0) (hE 14 rfl)) (ks_c14 cy ad o 0 0 _) rfl, fun U hU hWm => ⟨rfl, hU0.now hS hW hWm.alike hU⟩⟩ rfl rfl hl.1 rfl (lv_room (Nat.le_of_ble_eq_true rfl)) dX5_group_27 ⟨(Nat.le_of_ble_eq_true rfl), (Nat.le_of_ble_eq_true rfl)⟩) hS (fun H locs hW hS => ?_)
      refine lv_aload_n hx hb dX5_group_30 rfl (lv_at hl 0 rfl) ?_
      refine va_get (D := D) (ci := 5) (v := .ref (ad 25 0 0)) (C := RX5) (T := TX5) (N := 34) hx hb hts in_X5_group_5 hown hK (ks_P1 hW (ks_v14 (i := 0) (j := 0) (hE 14 rfl)) (ks_c14 cy ad o 0 0 _)) 0 rfl rfl 11 (by decide) (hts (.fieldLink RX5 40 "SpinKernelModel" "groups" "[I") (by decide +kernel)) (fun _ h => h) rfl dX5_group_31 ?_
      refine lv_iload_n hx hb dX5_group_34 rfl (lv_at hl 1 rfl) ?_
      obtain ⟨hi12, hf⟩ := ks_guard hf
      refine ks_iald hx hb hK hW (ks_v25 (i := 0) (j := 0) (hE 25 rfl)) (ks_c25 cy ad o 0 0 _) hi12 dX5_group_35 ?_
      exact ks_iret C hf hW hS dX5_group_36
    · rw [if_neg c8] at hf
      refine lv_iconst (v := 0) hx hb dX5_group_24 (by decide) ?_
      exact ks_iret C hf hW hS dX5_group_25
  · rw [if_pos c4] at hf
    refine lv_iconst (v := 1) hx hb dX5_group_11 (by decide) ?_
    refine lv_goto (tgt := 16) hx hb dX5_group_12 (by decide) ?_
    refine lv_iconst (v := 0) hx hb dX5_group_16 (by decide) ?_
    refine lv_iconst (v := 0) hx hb dX5_group_17 (by decide) ?_
    obtain ⟨⟨r15, s14⟩, hc13, hf⟩ := ks_bind hf
    try dsimp only at hf
    refine ks_calli (va_runV (As := [.int 1, .int 0, .int 0]) (rest := []) ⟨hx, hb, hml, hown, hts⟩ (m_X5_refused l D cy ad En n0 hG hE o hc13) (cwV 3 hts gX5_group_X5_refused rfl rfl rfl (by decide +kernel) ⟨(Nat.le_of_ble_eq_true rfl), (Nat.le_of_ble_eq_true rfl)⟩) ⟨ks_U.blind, ks_recv hK hW (ks_v14 (i := 0) (j := 0) (hE 14 rfl)) (ks_c14 cy ad o 0 0 _) rfl, fun U hU hWm => ⟨rfl, hU0.now hS hW hWm.alike hU⟩⟩ rfl rfl hl.1 rfl (lv_room (Nat.le_of_ble_eq_true rfl)) dX5_group_18 ⟨(Nat.le_of_ble_eq_true rfl), (Nat.le_of_ble_eq_true rfl)⟩) hS (fun H locs hW hS => ?_)
    refine lv_if_eq (tgt := 26) hx hb dX5_group_21 (by decide) (fun c16 => ?_) (fun c16 => ?_)
    · rw [if_pos c16] at hf
      refine lv_aload_n hx hb dX5_group_26 rfl (lv_at hl 0 rfl) ?_
      obtain ⟨s18, hc17, hf⟩ := ks_bind hf
      try dsimp only at hf
      refine ks_callv (va_runV (As := []) (rest := []) ⟨hx, hb, hml, hown, hts⟩ (m_X5_findGroups l D cy ad En n0 hG hE o hc17) (cwV 0 hts gX5_group_X5_findGroups rfl rfl rfl (by decide +kernel) ⟨(Nat.le_of_ble_eq_true rfl), (Nat.le_of_ble_eq_true rfl)⟩) ⟨ks_U.blind, ks_recv hK hW (ks_v14 (i := 0) (j := 0) (hE 14 rfl)) (ks_c14 cy ad o 0 0 _) rfl, fun U hU hWm => ⟨rfl, hU0.now hS hW hWm.alike hU⟩⟩ rfl rfl hl.1 rfl (lv_room (Nat.le_of_ble_eq_true rfl)) dX5_group_27 ⟨(Nat.le_of_ble_eq_true rfl), (Nat.le_of_ble_eq_true rfl)⟩) hS (fun H locs hW hS => ?_)
      refine lv_aload_n hx hb dX5_group_30 rfl (lv_at hl 0 rfl) ?_
      refine va_get (D := D) (ci := 5) (v := .ref (ad 25 0 0)) (C := RX5) (T := TX5) (N := 34) hx hb hts in_X5_group_5 hown hK (ks_P1 hW (ks_v14 (i := 0) (j := 0) (hE 14 rfl)) (ks_c14 cy ad o 0 0 _)) 0 rfl rfl 11 (by decide) (hts (.fieldLink RX5 40 "SpinKernelModel" "groups" "[I") (by decide +kernel)) (fun _ h => h) rfl dX5_group_31 ?_
      refine lv_iload_n hx hb dX5_group_34 rfl (lv_at hl 1 rfl) ?_
      obtain ⟨hi20, hf⟩ := ks_guard hf
      refine ks_iald hx hb hK hW (ks_v25 (i := 0) (j := 0) (hE 25 rfl)) (ks_c25 cy ad o 0 0 _) hi20 dX5_group_35 ?_
      exact ks_iret C hf hW hS dX5_group_36
    · rw [if_neg c16] at hf
      refine lv_iconst (v := 0) hx hb dX5_group_24 (by decide) ?_
      exact ks_iret C hf hW hS dX5_group_25
set_option maxHeartbeats 4000000 in
set_option maxRecDepth 100000 in
theorem m_X5_group (l : Launch) (D : va_G) (cy : Nat → ClassId) (ad : ks_A) (En : Nat → Prop) (n0 : Nat → Prop) (hG : ks_G ad En n0) (hE : ∀ k, ks_g k = 1 → En k) (o : Int64) {N : Nat} {σ : ks_S} {x1 : Int32}  {out : (Int32 × ks_S)} (hf : f_X5_group N σ x1 = some out) : Met l yX5_group wsX5_group (ks_Rm 1 0 0 27) (va_Pc [.ref (ad 14 0 0), .int x1] (ks_U D cy ad En n0 σ o)) (ks_Qi D cy ad En n0 o out) 0 0 (ks_F n0) := by
  refine Met.ofW (cc := cX5_group) (maxL := 2) (ret := some .int) (by decide) rfl ?_
  intro p e s m args below meth c s₁ B hml hv
  obtain ⟨rfl, hU⟩ := hv
  have hl := lv_entry ([.ref (ad 14 0 0), .int x1]) (n := 2) (Nat.le_of_ble_eq_true rfl)
  rw [lg_entry_eq]
  generalize (lg_sl ([.ref (ad 14 0 0), .int x1]) ++ List.replicate (2 - (lg_sl ([.ref (ad 14 0 0), .int x1])).length) Slot.unset).toArray = ls at hl ⊢
  exact t_X5_group ⟨B.exec, B.bytes, hml, B.returns, findClass_of_methodNamed B.named, atoms_spec (ws := wsX5_group) B.pre, B.notSynchronized, hG, hU, hE⟩  hf hU.2.1 va_S.rf hl

/-! SpinKernelModel.isOuter(II)Z -/
def f_X5_isOuter (σ : ks_S) (x1 : Int32) (x2 : Int32) : Option (Int32 × ks_S) :=
  (if ks_in ((((6 * x1)) + x2)) 96 = true then (if ((σ 24 0 0 ((((6 * x1)) + x2)).toNatClampNeg)) = ((-1)) then some (1, σ) else some (0, σ)) else none)
theorem in_X5_isOuter_5 : ∀ w ∈ wsX50, w ∈ wsX5_isOuter := by decide +kernel
set_option maxHeartbeats 4000000 in
set_option maxRecDepth 100000 in
theorem t_X5_isOuter {p : Program} {l : Launch} {e : Env} {s : State} {m : MethodId} {args : Array Value} {below : List Frame} {meth : Method} {c : Code} {D : va_G} {cy : Nat → ClassId} {ad : ks_A} {En : Nat → Prop} {n0 : Nat → Prop} {σ0 : ks_S} {o : Int64} {out : (Int32 × ks_S)} (C : ks_M p s m args meth c D cy ad En (fun k => ks_g k = 1) n0 σ0 o wsX5_isOuter cX5_isOuter RX5 3 (some .boolean)) {σ : ks_S} {x1 : Int32} {x2 : Int32}  (hf : f_X5_isOuter σ x1 x2 = some out) {H : Heap} {locs : List Loc} {ls : Array Slot} (hW : ks_W D cy ad En σ o H) (hS : va_S (ks_F n0) s.heap H locs) (hl : lv_has ls 3 [(0, .ref (ad 14 0 0)), (1, .int x1), (2, .int x2)]) : W p l e (ks_Rm 0 0 0 0) s m args below meth c H locs 0 0 (MQ below (ks_Qi D cy ad En n0 o out) args s 0 0 (ks_F n0)) (F0 m 0 ls []) := by
  obtain ⟨hx, hb, hml, hr, hown, hts, hlocks, hG, hU0, hE⟩ := id C
  have hK := hU0.2.2
  unfold f_X5_isOuter at hf
  refine lv_aload_n hx hb dX5_isOuter_0 rfl (lv_at hl 0 rfl) ?_
  refine va_get (D := D) (ci := 5) (v := .ref (ad 24 0 0)) (C := RX5) (T := TX5) (N := 34) hx hb hts in_X5_isOuter_5 hown hK (ks_P1 hW (ks_v14 (i := 0) (j := 0) (hE 14 rfl)) (ks_c14 cy ad o 0 0 _)) 0 rfl rfl 10 (by decide) (hts (.fieldLink RX5 37 "SpinKernelModel" "ins" "[I") (by decide +kernel)) (fun _ h => h) rfl dX5_isOuter_1 ?_
  refine lv_bipush (v := 6) hx hb dX5_isOuter_4 (by decide) ?_
  refine lv_iload_n hx hb dX5_isOuter_6 rfl (lv_at hl 1 rfl) ?_
  refine lv_imul hx hb dX5_isOuter_7 ?_
  refine lv_iload_n hx hb dX5_isOuter_8 rfl (lv_at hl 2 rfl) ?_
  refine lv_iadd hx hb dX5_isOuter_9 ?_
  obtain ⟨hi1, hf⟩ := ks_guard hf
  refine ks_iald hx hb hK hW (ks_v24 (i := 0) (j := 0) (hE 24 rfl)) (ks_c24 cy ad o 0 0 _) hi1 dX5_isOuter_10 ?_
  refine lv_iconst (v := (-1)) hx hb dX5_isOuter_11 (by decide) ?_
  refine lv_icmp_ne (tgt := 19) hx hb dX5_isOuter_12 (by decide) (fun c2 => ?_) (fun c2 => ?_)
  · rw [if_neg c2] at hf
    refine lv_iconst (v := 0) hx hb dX5_isOuter_19 (by decide) ?_
    exact ks_zret C rfl hf hW hS dX5_isOuter_20
  · rw [if_pos c2] at hf
    refine lv_iconst (v := 1) hx hb dX5_isOuter_15 (by decide) ?_
    refine lv_goto (tgt := 20) hx hb dX5_isOuter_16 (by decide) ?_
    exact ks_zret C rfl hf hW hS dX5_isOuter_20
set_option maxHeartbeats 4000000 in
set_option maxRecDepth 100000 in
theorem m_X5_isOuter (l : Launch) (D : va_G) (cy : Nat → ClassId) (ad : ks_A) (En : Nat → Prop) (n0 : Nat → Prop) (hG : ks_G ad En n0) (hE : ∀ k, ks_g k = 1 → En k) (o : Int64) {σ : ks_S} {x1 : Int32} {x2 : Int32}  {out : (Int32 × ks_S)} (hf : f_X5_isOuter σ x1 x2 = some out) : Met l yX5_isOuter wsX5_isOuter (ks_Rm 0 0 0 0) (va_Pc [.ref (ad 14 0 0), .int x1, .int x2] (ks_U D cy ad En n0 σ o)) (ks_Qi D cy ad En n0 o out) 0 0 (ks_F n0) := by
  refine Met.ofW (cc := cX5_isOuter) (maxL := 3) (ret := some .boolean) (by decide) rfl ?_
  intro p e s m args below meth c s₁ B hml hv
  obtain ⟨rfl, hU⟩ := hv
  have hl := lv_entry ([.ref (ad 14 0 0), .int x1, .int x2]) (n := 3) (Nat.le_of_ble_eq_true rfl)
  rw [lg_entry_eq]
  generalize (lg_sl ([.ref (ad 14 0 0), .int x1, .int x2]) ++ List.replicate (3 - (lg_sl ([.ref (ad 14 0 0), .int x1, .int x2])).length) Slot.unset).toArray = ls at hl ⊢
  exact t_X5_isOuter ⟨B.exec, B.bytes, hml, B.returns, findClass_of_methodNamed B.named, atoms_spec (ws := wsX5_isOuter) B.pre, B.notSynchronized, hG, hU, hE⟩  hf hU.2.1 va_S.rf hl

/-! SpinKernelModel.spinOf(II)I -/
def f_X5_spinOf_115 (N : Nat) (k5 : ks_S → Int32 → Int32 → Int32 → Int32 → Option (Int32 × ks_S)) (k17 : ks_S → Int32 → Int32 → Int32 → Int32 → Int32 → Int32 → Option (Int32 × ks_S)) (k27 : ks_S → Int32 → Int32 → Int32 → Int32 → Int32 → Int32 → Int32 → Option (Int32 × ks_S)) (σ : ks_S) (x1 : Int32) (x2 : Int32) (x3 : Int32) (x4 : Int32) (x5 : Int32) (x6 : Int32) (x7 : Int32) (xs0 : Int32) : Option (Int32 × ks_S) :=
  (if xs0 = 0 then k27 σ x1 x2 x3 x4 x5 x6 ((x7 + 1)) else (if ks_in ((((6 * x6)) + x7)) 96 = true then (if ((σ 23 0 0 ((((6 * x6)) + x7)).toNatClampNeg)) ≤ x5 then k27 σ x1 x2 x3 x4 x5 x6 ((x7 + 1)) else (if ks_in ((((6 * x6)) + x7)) 96 = true then k27 σ x1 x2 x3 x4 ((σ 23 0 0 ((((6 * x6)) + x7)).toNatClampNeg)) x6 ((x7 + 1)) else none)) else none))
def f_X5_spinOf_114 (N : Nat) (k5 : ks_S → Int32 → Int32 → Int32 → Int32 → Option (Int32 × ks_S)) (k17 : ks_S → Int32 → Int32 → Int32 → Int32 → Int32 → Int32 → Option (Int32 × ks_S)) (k27 : ks_S → Int32 → Int32 → Int32 → Int32 → Int32 → Int32 → Int32 → Option (Int32 × ks_S)) (σ : ks_S) (x1 : Int32) (x2 : Int32) (x3 : Int32) (x4 : Int32) (x5 : Int32) (x6 : Int32) (x7 : Int32) : Option (Int32 × ks_S) :=
  f_X5_spinOf_115 N k5 k17 k27 σ x1 x2 x3 x4 x5 x6 x7 0
def f_X5_spinOf_27 (N : Nat) (k5 : ks_S → Int32 → Int32 → Int32 → Int32 → Option (Int32 × ks_S)) (k17 : ks_S → Int32 → Int32 → Int32 → Int32 → Int32 → Int32 → Option (Int32 × ks_S)) : Nat → ks_S → Int32 → Int32 → Int32 → Int32 → Int32 → Int32 → Int32 → Option (Int32 × ks_S)
  | 0, _, _, _, _, _, _, _, _ => none
  | n + 1, σ, x1, x2, x3, x4, x5, x6, x7 => (if ks_in x6 16 = true then (if ((σ 20 0 0 x6.toNatClampNeg)) ≤ x7 then k17 σ x1 x2 x3 x4 x5 ((x6 + 1)) else (if ks_in x6 16 = true then (if ((σ 15 0 0 x6.toNatClampNeg)) = x4 then (if ks_in x1 16 = true then (if x4 = ((σ 15 0 0 x1.toNatClampNeg)) then k17 σ x1 x2 x3 x4 x5 ((x6 + 1)) else ((f_X5_isOuter σ x6 x7).bind fun (r11, s10) => (if r11 = 0 then f_X5_spinOf_114 N k5 k17 (f_X5_spinOf_27 N k5 k17 n) s10 x1 x2 x3 x4 x5 x6 x7 else (if ks_in ((((6 * x6)) + x7)) 96 = true then (if ks_in ((s10 22 0 0 ((((6 * x6)) + x7)).toNatClampNeg)) 8 = true then (if ks_in ((((6 * x1)) + x2)) 96 = true then (if ks_in ((s10 22 0 0 ((((6 * x1)) + x2)).toNatClampNeg)) 8 = true then (if ((s10 25 0 0 ((s10 22 0 0 ((((6 * x6)) + x7)).toNatClampNeg)).toNatClampNeg)) = ((s10 25 0 0 ((s10 22 0 0 ((((6 * x1)) + x2)).toNatClampNeg)).toNatClampNeg)) then f_X5_spinOf_115 N k5 k17 (f_X5_spinOf_27 N k5 k17 n) s10 x1 x2 x3 x4 x5 x6 x7 1 else f_X5_spinOf_114 N k5 k17 (f_X5_spinOf_27 N k5 k17 n) s10 x1 x2 x3 x4 x5 x6 x7) else none) else none) else none) else none)))) else none) else k17 σ x1 x2 x3 x4 x5 ((x6 + 1))) else none)) else none)
def f_X5_spinOf_17 (N : Nat) (k5 : ks_S → Int32 → Int32 → Int32 → Int32 → Option (Int32 × ks_S)) : Nat → ks_S → Int32 → Int32 → Int32 → Int32 → Int32 → Int32 → Option (Int32 × ks_S)
  | 0, _, _, _, _, _, _, _ => none
  | n + 1, σ, x1, x2, x3, x4, x5, x6 => (if 16 ≤ x6 then k5 σ x1 x2 ((x3 + x5)) ((x4 + 1)) else f_X5_spinOf_27 N k5 (f_X5_spinOf_17 N k5 n) N σ x1 x2 x3 x4 x5 x6 0)
def f_X5_spinOf_5 (N : Nat) : Nat → ks_S → Int32 → Int32 → Int32 → Int32 → Option (Int32 × ks_S)
  | 0, _, _, _, _, _ => none
  | n + 1, σ, x1, x2, x3, x4 => (if 4 ≤ x4 then some (x3, σ) else f_X5_spinOf_17 N (f_X5_spinOf_5 N n) N σ x1 x2 x3 x4 0 0)
def f_X5_spinOf (N : Nat) (σ : ks_S) (x1 : Int32) (x2 : Int32) : Option (Int32 × ks_S) :=
  f_X5_spinOf_5 N N σ x1 x2 0 0
theorem in_X5_spinOf_5 : ∀ w ∈ wsX50, w ∈ wsX5_spinOf := by decide +kernel
set_option maxHeartbeats 4000000 in
set_option maxRecDepth 100000 in
theorem t_X5_spinOf_115 {p : Program} {l : Launch} {e : Env} {s : State} {m : MethodId} {args : Array Value} {below : List Frame} {meth : Method} {c : Code} {D : va_G} {cy : Nat → ClassId} {ad : ks_A} {En : Nat → Prop} {n0 : Nat → Prop} {σ0 : ks_S} {o : Int64} {N : Nat} {out : (Int32 × ks_S)} (C : ks_M p s m args meth c D cy ad En (fun k => ks_g k = 1) n0 σ0 o wsX5_spinOf cX5_spinOf RX5 9 (some .int)) {k5 : ks_S → Int32 → Int32 → Int32 → Int32 → Option (Int32 × ks_S)} {k17 : ks_S → Int32 → Int32 → Int32 → Int32 → Int32 → Int32 → Option (Int32 × ks_S)} {k27 : ks_S → Int32 → Int32 → Int32 → Int32 → Int32 → Int32 → Int32 → Option (Int32 × ks_S)} (hk5 : ∀ (σ : ks_S) (x1 : Int32) (x2 : Int32) (x3 : Int32) (x4 : Int32), k5 σ x1 x2 x3 x4 = some out → ∀ {H : Heap} {locs : List Loc} {ls : Array Slot}, ks_W D cy ad En σ o H → va_S (ks_F n0) s.heap H locs → lv_has ls 9 [(0, .ref (ad 14 0 0)), (1, .int x1), (2, .int x2), (3, .int x3), (4, .int x4)] → W p l e (ks_Rm 1 0 0 22) s m args below meth c H locs 0 0 (MQ below (ks_Qi D cy ad En n0 o out) args s 0 0 (ks_F n0)) (F0 m 5 ls [])) (hk17 : ∀ (σ : ks_S) (x1 : Int32) (x2 : Int32) (x3 : Int32) (x4 : Int32) (x5 : Int32) (x6 : Int32), k17 σ x1 x2 x3 x4 x5 x6 = some out → ∀ {H : Heap} {locs : List Loc} {ls : Array Slot}, ks_W D cy ad En σ o H → va_S (ks_F n0) s.heap H locs → lv_has ls 9 [(0, .ref (ad 14 0 0)), (1, .int x1), (2, .int x2), (3, .int x3), (4, .int x4), (5, .int x5), (6, .int x6)] → W p l e (ks_Rm 1 0 0 22) s m args below meth c H locs 0 0 (MQ below (ks_Qi D cy ad En n0 o out) args s 0 0 (ks_F n0)) (F0 m 17 ls [])) (hk27 : ∀ (σ : ks_S) (x1 : Int32) (x2 : Int32) (x3 : Int32) (x4 : Int32) (x5 : Int32) (x6 : Int32) (x7 : Int32), k27 σ x1 x2 x3 x4 x5 x6 x7 = some out → ∀ {H : Heap} {locs : List Loc} {ls : Array Slot}, ks_W D cy ad En σ o H → va_S (ks_F n0) s.heap H locs → lv_has ls 9 [(0, .ref (ad 14 0 0)), (1, .int x1), (2, .int x2), (3, .int x3), (4, .int x4), (5, .int x5), (6, .int x6), (7, .int x7)] → W p l e (ks_Rm 1 0 0 22) s m args below meth c H locs 0 0 (MQ below (ks_Qi D cy ad En n0 o out) args s 0 0 (ks_F n0)) (F0 m 27 ls [])) {σ : ks_S} {x1 : Int32} {x2 : Int32} {x3 : Int32} {x4 : Int32} {x5 : Int32} {x6 : Int32} {x7 : Int32} {xs0 : Int32}  (hf : f_X5_spinOf_115 N k5 k17 k27 σ x1 x2 x3 x4 x5 x6 x7 xs0 = some out) {H : Heap} {locs : List Loc} {ls : Array Slot} (hW : ks_W D cy ad En σ o H) (hS : va_S (ks_F n0) s.heap H locs) (hl : lv_has ls 9 [(0, .ref (ad 14 0 0)), (1, .int x1), (2, .int x2), (3, .int x3), (4, .int x4), (5, .int x5), (6, .int x6), (7, .int x7)]) : W p l e (ks_Rm 1 0 0 22) s m args below meth c H locs 0 0 (MQ below (ks_Qi D cy ad En n0 o out) args s 0 0 (ks_F n0)) (F0 m 115 ls [.int xs0]) := by
  obtain ⟨hx, hb, hml, hr, hown, hts, hlocks, hG, hU0, hE⟩ := id C
  have hK := hU0.2.2
  unfold f_X5_spinOf_115 at hf
  refine lv_istore (lv' := [(8, .int xs0), (0, .ref (ad 14 0 0)), (1, .int x1), (2, .int x2), (3, .int x3), (4, .int x4), (5, .int x5), (6, .int x6), (7, .int x7)]) hx hb dX5_spinOf_115 hl (by decide) rfl (fun ls hl => ?_)
  refine lv_iload hx hb dX5_spinOf_117 (lv_at hl 0 rfl) ?_
  refine lv_if_eq (tgt := 156) hx hb dX5_spinOf_119 (by decide) (fun c13 => ?_) (fun c13 => ?_)
  · rw [if_pos c13] at hf
    refine lv_iload hx hb dX5_spinOf_156 (lv_at hl 6 rfl) ?_
    refine lv_istore (lv' := [(5, .int x5), (8, .int xs0), (0, .ref (ad 14 0 0)), (1, .int x1), (2, .int x2), (3, .int x3), (4, .int x4), (6, .int x6), (7, .int x7)]) hx hb dX5_spinOf_158 hl (by decide) rfl (fun ls hl => ?_)
    refine lv_iinc (v := (x7 + 1)) (lv' := [(7, .int (x7 + 1)), (5, .int x5), (8, .int xs0), (0, .ref (ad 14 0 0)), (1, .int x1), (2, .int x2), (3, .int x3), (4, .int x4), (6, .int x6)]) hx hb dX5_spinOf_160 hl (k := 8) rfl rfl (by decide) rfl (fun ls hl => ?_)
    refine lv_goto (tgt := 27) hx hb dX5_spinOf_163 (by decide) ?_
    exact hk27 _ _ _ _ _ _ _ _ hf hW hS (lv_sub hl [3, 4, 5, 6, 7, 1, 8, 0] rfl)
  · rw [if_neg c13] at hf
    refine lv_aload_n hx hb dX5_spinOf_122 rfl (lv_at hl 1 rfl) ?_
    refine va_get (D := D) (ci := 5) (v := .ref (ad 23 0 0)) (C := RX5) (T := TX5) (N := 34) hx hb hts in_X5_spinOf_5 hown hK (ks_P1 hW (ks_v14 (i := 0) (j := 0) (hE 14 rfl)) (ks_c14 cy ad o 0 0 _)) 0 rfl rfl 9 (by decide) (hts (.fieldLink RX5 34 "SpinKernelModel" "lengths" "[I") (by decide +kernel)) (fun _ h => h) rfl dX5_spinOf_123 ?_
    refine lv_bipush (v := 6) hx hb dX5_spinOf_126 (by decide) ?_
    refine lv_iload hx hb dX5_spinOf_128 (lv_at hl 7 rfl) ?_
    refine lv_imul hx hb dX5_spinOf_130 ?_
    refine lv_iload hx hb dX5_spinOf_131 (lv_at hl 8 rfl) ?_
    refine lv_iadd hx hb dX5_spinOf_133 ?_
    obtain ⟨hi14, hf⟩ := ks_guard hf
    refine ks_iald hx hb hK hW (ks_v23 (i := 0) (j := 0) (hE 23 rfl)) (ks_c23 cy ad o 0 0 _) hi14 dX5_spinOf_134 ?_
    refine lv_iload hx hb dX5_spinOf_135 (lv_at hl 6 rfl) ?_
    refine lv_icmp_le (tgt := 156) hx hb dX5_spinOf_137 (by decide) (fun c15 => ?_) (fun c15 => ?_)
    · rw [if_pos c15] at hf
      refine lv_iload hx hb dX5_spinOf_156 (lv_at hl 6 rfl) ?_
      refine lv_istore (lv' := [(5, .int x5), (8, .int xs0), (0, .ref (ad 14 0 0)), (1, .int x1), (2, .int x2), (3, .int x3), (4, .int x4), (6, .int x6), (7, .int x7)]) hx hb dX5_spinOf_158 hl (by decide) rfl (fun ls hl => ?_)
      refine lv_iinc (v := (x7 + 1)) (lv' := [(7, .int (x7 + 1)), (5, .int x5), (8, .int xs0), (0, .ref (ad 14 0 0)), (1, .int x1), (2, .int x2), (3, .int x3), (4, .int x4), (6, .int x6)]) hx hb dX5_spinOf_160 hl (k := 8) rfl rfl (by decide) rfl (fun ls hl => ?_)
      refine lv_goto (tgt := 27) hx hb dX5_spinOf_163 (by decide) ?_
      exact hk27 _ _ _ _ _ _ _ _ hf hW hS (lv_sub hl [3, 4, 5, 6, 7, 1, 8, 0] rfl)
    · rw [if_neg c15] at hf
      refine lv_aload_n hx hb dX5_spinOf_140 rfl (lv_at hl 1 rfl) ?_
      refine va_get (D := D) (ci := 5) (v := .ref (ad 23 0 0)) (C := RX5) (T := TX5) (N := 34) hx hb hts in_X5_spinOf_5 hown hK (ks_P1 hW (ks_v14 (i := 0) (j := 0) (hE 14 rfl)) (ks_c14 cy ad o 0 0 _)) 0 rfl rfl 9 (by decide) (hts (.fieldLink RX5 34 "SpinKernelModel" "lengths" "[I") (by decide +kernel)) (fun _ h => h) rfl dX5_spinOf_141 ?_
      refine lv_bipush (v := 6) hx hb dX5_spinOf_144 (by decide) ?_
      refine lv_iload hx hb dX5_spinOf_146 (lv_at hl 7 rfl) ?_
      refine lv_imul hx hb dX5_spinOf_148 ?_
      refine lv_iload hx hb dX5_spinOf_149 (lv_at hl 8 rfl) ?_
      refine lv_iadd hx hb dX5_spinOf_151 ?_
      obtain ⟨hi16, hf⟩ := ks_guard hf
      refine ks_iald hx hb hK hW (ks_v23 (i := 0) (j := 0) (hE 23 rfl)) (ks_c23 cy ad o 0 0 _) hi16 dX5_spinOf_152 ?_
      refine lv_goto (tgt := 158) hx hb dX5_spinOf_153 (by decide) ?_
      refine lv_istore (lv' := [(5, .int (σ 23 0 0 ((((6 * x6)) + x7)).toNatClampNeg)), (8, .int xs0), (0, .ref (ad 14 0 0)), (1, .int x1), (2, .int x2), (3, .int x3), (4, .int x4), (6, .int x6), (7, .int x7)]) hx hb dX5_spinOf_158 hl (by decide) rfl (fun ls hl => ?_)
      refine lv_iinc (v := (x7 + 1)) (lv' := [(7, .int (x7 + 1)), (5, .int (σ 23 0 0 ((((6 * x6)) + x7)).toNatClampNeg)), (8, .int xs0), (0, .ref (ad 14 0 0)), (1, .int x1), (2, .int x2), (3, .int x3), (4, .int x4), (6, .int x6)]) hx hb dX5_spinOf_160 hl (k := 8) rfl rfl (by decide) rfl (fun ls hl => ?_)
      refine lv_goto (tgt := 27) hx hb dX5_spinOf_163 (by decide) ?_
      exact hk27 _ _ _ _ _ _ _ _ hf hW hS (lv_sub hl [3, 4, 5, 6, 7, 1, 8, 0] rfl)
set_option maxHeartbeats 4000000 in
set_option maxRecDepth 100000 in
theorem t_X5_spinOf_114 {p : Program} {l : Launch} {e : Env} {s : State} {m : MethodId} {args : Array Value} {below : List Frame} {meth : Method} {c : Code} {D : va_G} {cy : Nat → ClassId} {ad : ks_A} {En : Nat → Prop} {n0 : Nat → Prop} {σ0 : ks_S} {o : Int64} {N : Nat} {out : (Int32 × ks_S)} (C : ks_M p s m args meth c D cy ad En (fun k => ks_g k = 1) n0 σ0 o wsX5_spinOf cX5_spinOf RX5 9 (some .int)) {k5 : ks_S → Int32 → Int32 → Int32 → Int32 → Option (Int32 × ks_S)} {k17 : ks_S → Int32 → Int32 → Int32 → Int32 → Int32 → Int32 → Option (Int32 × ks_S)} {k27 : ks_S → Int32 → Int32 → Int32 → Int32 → Int32 → Int32 → Int32 → Option (Int32 × ks_S)} (hk5 : ∀ (σ : ks_S) (x1 : Int32) (x2 : Int32) (x3 : Int32) (x4 : Int32), k5 σ x1 x2 x3 x4 = some out → ∀ {H : Heap} {locs : List Loc} {ls : Array Slot}, ks_W D cy ad En σ o H → va_S (ks_F n0) s.heap H locs → lv_has ls 9 [(0, .ref (ad 14 0 0)), (1, .int x1), (2, .int x2), (3, .int x3), (4, .int x4)] → W p l e (ks_Rm 1 0 0 22) s m args below meth c H locs 0 0 (MQ below (ks_Qi D cy ad En n0 o out) args s 0 0 (ks_F n0)) (F0 m 5 ls [])) (hk17 : ∀ (σ : ks_S) (x1 : Int32) (x2 : Int32) (x3 : Int32) (x4 : Int32) (x5 : Int32) (x6 : Int32), k17 σ x1 x2 x3 x4 x5 x6 = some out → ∀ {H : Heap} {locs : List Loc} {ls : Array Slot}, ks_W D cy ad En σ o H → va_S (ks_F n0) s.heap H locs → lv_has ls 9 [(0, .ref (ad 14 0 0)), (1, .int x1), (2, .int x2), (3, .int x3), (4, .int x4), (5, .int x5), (6, .int x6)] → W p l e (ks_Rm 1 0 0 22) s m args below meth c H locs 0 0 (MQ below (ks_Qi D cy ad En n0 o out) args s 0 0 (ks_F n0)) (F0 m 17 ls [])) (hk27 : ∀ (σ : ks_S) (x1 : Int32) (x2 : Int32) (x3 : Int32) (x4 : Int32) (x5 : Int32) (x6 : Int32) (x7 : Int32), k27 σ x1 x2 x3 x4 x5 x6 x7 = some out → ∀ {H : Heap} {locs : List Loc} {ls : Array Slot}, ks_W D cy ad En σ o H → va_S (ks_F n0) s.heap H locs → lv_has ls 9 [(0, .ref (ad 14 0 0)), (1, .int x1), (2, .int x2), (3, .int x3), (4, .int x4), (5, .int x5), (6, .int x6), (7, .int x7)] → W p l e (ks_Rm 1 0 0 22) s m args below meth c H locs 0 0 (MQ below (ks_Qi D cy ad En n0 o out) args s 0 0 (ks_F n0)) (F0 m 27 ls [])) {σ : ks_S} {x1 : Int32} {x2 : Int32} {x3 : Int32} {x4 : Int32} {x5 : Int32} {x6 : Int32} {x7 : Int32}  (hf : f_X5_spinOf_114 N k5 k17 k27 σ x1 x2 x3 x4 x5 x6 x7 = some out) {H : Heap} {locs : List Loc} {ls : Array Slot} (hW : ks_W D cy ad En σ o H) (hS : va_S (ks_F n0) s.heap H locs) (hl : lv_has ls 9 [(0, .ref (ad 14 0 0)), (1, .int x1), (2, .int x2), (3, .int x3), (4, .int x4), (5, .int x5), (6, .int x6), (7, .int x7)]) : W p l e (ks_Rm 1 0 0 22) s m args below meth c H locs 0 0 (MQ below (ks_Qi D cy ad En n0 o out) args s 0 0 (ks_F n0)) (F0 m 114 ls []) := by
  obtain ⟨hx, hb, hml, hr, hown, hts, hlocks, hG, hU0, hE⟩ := id C
  have hK := hU0.2.2
  unfold f_X5_spinOf_114 at hf
  refine lv_iconst (v := 0) hx hb dX5_spinOf_114 (by decide) ?_
  exact t_X5_spinOf_115 C hk5 hk17 hk27  hf hW hS (lv_sub hl [0, 1, 2, 3, 4, 5, 6, 7] rfl)
set_option maxHeartbeats 4000000 in
set_option maxRecDepth 100000 in
theorem t_X5_spinOf_27 {p : Program} {l : Launch} {e : Env} {s : State} {m : MethodId} {args : Array Value} {below : List Frame} {meth : Method} {c : Code} {D : va_G} {cy : Nat → ClassId} {ad : ks_A} {En : Nat → Prop} {n0 : Nat → Prop} {σ0 : ks_S} {o : Int64} {N : Nat} {out : (Int32 × ks_S)} (C : ks_M p s m args meth c D cy ad En (fun k => ks_g k = 1) n0 σ0 o wsX5_spinOf cX5_spinOf RX5 9 (some .int)) {k5 : ks_S → Int32 → Int32 → Int32 → Int32 → Option (Int32 × ks_S)} {k17 : ks_S → Int32 → Int32 → Int32 → Int32 → Int32 → Int32 → Option (Int32 × ks_S)} (hk5 : ∀ (σ : ks_S) (x1 : Int32) (x2 : Int32) (x3 : Int32) (x4 : Int32), k5 σ x1 x2 x3 x4 = some out → ∀ {H : Heap} {locs : List Loc} {ls : Array Slot}, ks_W D cy ad En σ o H → va_S (ks_F n0) s.heap H locs → lv_has ls 9 [(0, .ref (ad 14 0 0)), (1, .int x1), (2, .int x2), (3, .int x3), (4, .int x4)] → W p l e (ks_Rm 1 0 0 22) s m args below meth c H locs 0 0 (MQ below (ks_Qi D cy ad En n0 o out) args s 0 0 (ks_F n0)) (F0 m 5 ls [])) (hk17 : ∀ (σ : ks_S) (x1 : Int32) (x2 : Int32) (x3 : Int32) (x4 : Int32) (x5 : Int32) (x6 : Int32), k17 σ x1 x2 x3 x4 x5 x6 = some out → ∀ {H : Heap} {locs : List Loc} {ls : Array Slot}, ks_W D cy ad En σ o H → va_S (ks_F n0) s.heap H locs → lv_has ls 9 [(0, .ref (ad 14 0 0)), (1, .int x1), (2, .int x2), (3, .int x3), (4, .int x4), (5, .int x5), (6, .int x6)] → W p l e (ks_Rm 1 0 0 22) s m args below meth c H locs 0 0 (MQ below (ks_Qi D cy ad En n0 o out) args s 0 0 (ks_F n0)) (F0 m 17 ls [])) : ∀ (n : Nat) (σ : ks_S) (x1 : Int32) (x2 : Int32) (x3 : Int32) (x4 : Int32) (x5 : Int32) (x6 : Int32) (x7 : Int32), f_X5_spinOf_27 N k5 k17 n σ x1 x2 x3 x4 x5 x6 x7 = some out → ∀ {H : Heap} {locs : List Loc} {ls : Array Slot}, ks_W D cy ad En σ o H → va_S (ks_F n0) s.heap H locs → lv_has ls 9 [(0, .ref (ad 14 0 0)), (1, .int x1), (2, .int x2), (3, .int x3), (4, .int x4), (5, .int x5), (6, .int x6), (7, .int x7)] → W p l e (ks_Rm 1 0 0 22) s m args below meth c H locs 0 0 (MQ below (ks_Qi D cy ad En n0 o out) args s 0 0 (ks_F n0)) (F0 m 27 ls []) := by
  obtain ⟨hx, hb, hml, hr, hown, hts, hlocks, hG, hU0, hE⟩ := id C
  have hK := hU0.2.2
  intro n
  induction n with
  | zero => intro σ x1 x2 x3 x4 x5 x6 x7; intro  hf; exact absurd hf (by simp [f_X5_spinOf_27])
  | succ n hk27 =>
    intro σ x1 x2 x3 x4 x5 x6 x7  hf H locs ls hW hS hl
    rw [f_X5_spinOf_27] at hf
    refine lv_iload hx hb dX5_spinOf_27 (lv_at hl 7 rfl) ?_
    refine lv_aload_n hx hb dX5_spinOf_29 rfl (lv_at hl 0 rfl) ?_
    refine va_get (D := D) (ci := 5) (v := .ref (ad 20 0 0)) (C := RX5) (T := TX5) (N := 34) hx hb hts in_X5_spinOf_5 hown hK (ks_P1 hW (ks_v14 (i := 0) (j := 0) (hE 14 rfl)) (ks_c14 cy ad o 0 0 _)) 0 rfl rfl 6 (by decide) (hts (.fieldLink RX5 25 "SpinKernelModel" "counts" "[I") (by decide +kernel)) (fun _ h => h) rfl dX5_spinOf_30 ?_
    refine lv_iload hx hb dX5_spinOf_33 (lv_at hl 6 rfl) ?_
    obtain ⟨hi3, hf⟩ := ks_guard hf
    refine ks_iald hx hb hK hW (ks_v20 (i := 0) (j := 0) (hE 20 rfl)) (ks_c20 cy ad o 0 0 _) hi3 dX5_spinOf_35 ?_
    refine lv_icmp_ge (tgt := 166) hx hb dX5_spinOf_36 (by decide) (fun c4 => ?_) (fun c4 => ?_)
    · rw [if_pos c4] at hf
      refine lv_iinc (v := (x6 + 1)) (lv' := [(6, .int (x6 + 1)), (0, .ref (ad 14 0 0)), (1, .int x1), (2, .int x2), (3, .int x3), (4, .int x4), (5, .int x5), (7, .int x7)]) hx hb dX5_spinOf_166 hl (k := 6) rfl rfl (by decide) rfl (fun ls hl => ?_)
      refine lv_goto (tgt := 17) hx hb dX5_spinOf_169 (by decide) ?_
      exact hk17 _ _ _ _ _ _ _ hf hW hS (lv_sub hl [1, 2, 3, 4, 5, 6, 0] rfl)
    · rw [if_neg c4] at hf
      refine lv_aload_n hx hb dX5_spinOf_39 rfl (lv_at hl 0 rfl) ?_
      refine va_get (D := D) (ci := 5) (v := .ref (ad 15 0 0)) (C := RX5) (T := TX5) (N := 34) hx hb hts in_X5_spinOf_5 hown hK (ks_P1 hW (ks_v14 (i := 0) (j := 0) (hE 14 rfl)) (ks_c14 cy ad o 0 0 _)) 0 rfl rfl 1 (by decide) (hts (.fieldLink RX5 7 "SpinKernelModel" "cores" "[I") (by decide +kernel)) (fun _ h => h) rfl dX5_spinOf_40 ?_
      refine lv_iload hx hb dX5_spinOf_43 (lv_at hl 6 rfl) ?_
      obtain ⟨hi5, hf⟩ := ks_guard hf
      refine ks_iald hx hb hK hW (ks_v15 (i := 0) (j := 0) (hE 15 rfl)) (ks_c15 cy ad o 0 0 _) hi5 dX5_spinOf_45 ?_
      refine lv_iload hx hb dX5_spinOf_46 (lv_at hl 4 rfl) ?_
      refine lv_icmp_ne (tgt := 166) hx hb dX5_spinOf_48 (by decide) (fun c6 => ?_) (fun c6 => ?_)
      · rw [if_neg c6] at hf
        refine lv_iinc (v := (x6 + 1)) (lv' := [(6, .int (x6 + 1)), (0, .ref (ad 14 0 0)), (1, .int x1), (2, .int x2), (3, .int x3), (4, .int x4), (5, .int x5), (7, .int x7)]) hx hb dX5_spinOf_166 hl (k := 6) rfl rfl (by decide) rfl (fun ls hl => ?_)
        refine lv_goto (tgt := 17) hx hb dX5_spinOf_169 (by decide) ?_
        exact hk17 _ _ _ _ _ _ _ hf hW hS (lv_sub hl [1, 2, 3, 4, 5, 6, 0] rfl)
      · rw [if_pos c6] at hf
        refine lv_iload hx hb dX5_spinOf_51 (lv_at hl 4 rfl) ?_
        refine lv_aload_n hx hb dX5_spinOf_53 rfl (lv_at hl 0 rfl) ?_
        refine va_get (D := D) (ci := 5) (v := .ref (ad 15 0 0)) (C := RX5) (T := TX5) (N := 34) hx hb hts in_X5_spinOf_5 hown hK (ks_P1 hW (ks_v14 (i := 0) (j := 0) (hE 14 rfl)) (ks_c14 cy ad o 0 0 _)) 0 rfl rfl 1 (by decide) (hts (.fieldLink RX5 7 "SpinKernelModel" "cores" "[I") (by decide +kernel)) (fun _ h => h) rfl dX5_spinOf_54 ?_
        refine lv_iload_n hx hb dX5_spinOf_57 rfl (lv_at hl 1 rfl) ?_
        obtain ⟨hi7, hf⟩ := ks_guard hf
        refine ks_iald hx hb hK hW (ks_v15 (i := 0) (j := 0) (hE 15 rfl)) (ks_c15 cy ad o 0 0 _) hi7 dX5_spinOf_58 ?_
        refine lv_icmp_eq (tgt := 166) hx hb dX5_spinOf_59 (by decide) (fun c8 => ?_) (fun c8 => ?_)
        · rw [if_pos c8] at hf
          refine lv_iinc (v := (x6 + 1)) (lv' := [(6, .int (x6 + 1)), (0, .ref (ad 14 0 0)), (1, .int x1), (2, .int x2), (3, .int x3), (4, .int x4), (5, .int x5), (7, .int x7)]) hx hb dX5_spinOf_166 hl (k := 6) rfl rfl (by decide) rfl (fun ls hl => ?_)
          refine lv_goto (tgt := 17) hx hb dX5_spinOf_169 (by decide) ?_
          exact hk17 _ _ _ _ _ _ _ hf hW hS (lv_sub hl [1, 2, 3, 4, 5, 6, 0] rfl)
        · rw [if_neg c8] at hf
          refine lv_aload_n hx hb dX5_spinOf_62 rfl (lv_at hl 0 rfl) ?_
          refine lv_iload hx hb dX5_spinOf_63 (lv_at hl 6 rfl) ?_
          refine lv_iload hx hb dX5_spinOf_65 (lv_at hl 7 rfl) ?_
          obtain ⟨⟨r11, s10⟩, hc9, hf⟩ := ks_bind hf
          try dsimp only at hf
          refine ks_calli (va_runV (As := [.int x6, .int x7]) (rest := []) ⟨hx, hb, hml, hown, hts⟩ (m_X5_isOuter l D cy ad En n0 hG hE o hc9) (cwV 2 hts gX5_spinOf_X5_isOuter rfl rfl rfl (by decide +kernel) ⟨(Nat.le_of_ble_eq_true rfl), (Nat.le_of_ble_eq_true rfl)⟩) ⟨ks_U.blind, ks_recv hK hW (ks_v14 (i := 0) (j := 0) (hE 14 rfl)) (ks_c14 cy ad o 0 0 _) rfl, fun U hU hWm => ⟨rfl, hU0.now hS hW hWm.alike hU⟩⟩ rfl rfl hl.1 rfl (lv_room (Nat.le_of_ble_eq_true rfl)) dX5_spinOf_67 ⟨(Nat.le_of_ble_eq_true rfl), (Nat.le_of_ble_eq_true rfl)⟩) hS (fun H locs hW hS => ?_)
          refine lv_if_eq (tgt := 114) hx hb dX5_spinOf_70 (by decide) (fun c12 => ?_) (fun c12 => ?_)
          · rw [if_pos c12] at hf
            exact t_X5_spinOf_114 C hk5 hk17 hk27  hf hW hS (lv_sub hl [0, 1, 2, 3, 4, 5, 6, 7] rfl)
          · rw [if_neg c12] at hf
            refine lv_aload_n hx hb dX5_spinOf_73 rfl (lv_at hl 0 rfl) ?_
            refine va_get (D := D) (ci := 5) (v := .ref (ad 25 0 0)) (C := RX5) (T := TX5) (N := 34) hx hb hts in_X5_spinOf_5 hown hK (ks_P1 hW (ks_v14 (i := 0) (j := 0) (hE 14 rfl)) (ks_c14 cy ad o 0 0 _)) 0 rfl rfl 11 (by decide) (hts (.fieldLink RX5 40 "SpinKernelModel" "groups" "[I") (by decide +kernel)) (fun _ h => h) rfl dX5_spinOf_74 ?_
            refine lv_aload_n hx hb dX5_spinOf_77 rfl (lv_at hl 0 rfl) ?_
            refine va_get (D := D) (ci := 5) (v := .ref (ad 22 0 0)) (C := RX5) (T := TX5) (N := 34) hx hb hts in_X5_spinOf_5 hown hK (ks_P1 hW (ks_v14 (i := 0) (j := 0) (hE 14 rfl)) (ks_c14 cy ad o 0 0 _)) 0 rfl rfl 8 (by decide) (hts (.fieldLink RX5 31 "SpinKernelModel" "locks" "[I") (by decide +kernel)) (fun _ h => h) rfl dX5_spinOf_78 ?_
            refine lv_bipush (v := 6) hx hb dX5_spinOf_81 (by decide) ?_
            refine lv_iload hx hb dX5_spinOf_83 (lv_at hl 6 rfl) ?_
            refine lv_imul hx hb dX5_spinOf_85 ?_
            refine lv_iload hx hb dX5_spinOf_86 (lv_at hl 7 rfl) ?_
            refine lv_iadd hx hb dX5_spinOf_88 ?_
            obtain ⟨hi17, hf⟩ := ks_guard hf
            refine ks_iald hx hb hK hW (ks_v22 (i := 0) (j := 0) (hE 22 rfl)) (ks_c22 cy ad o 0 0 _) hi17 dX5_spinOf_89 ?_
            obtain ⟨hi18, hf⟩ := ks_guard hf
            refine ks_iald hx hb hK hW (ks_v25 (i := 0) (j := 0) (hE 25 rfl)) (ks_c25 cy ad o 0 0 _) hi18 dX5_spinOf_90 ?_
            refine lv_aload_n hx hb dX5_spinOf_91 rfl (lv_at hl 0 rfl) ?_
            refine va_get (D := D) (ci := 5) (v := .ref (ad 25 0 0)) (C := RX5) (T := TX5) (N := 34) hx hb hts in_X5_spinOf_5 hown hK (ks_P1 hW (ks_v14 (i := 0) (j := 0) (hE 14 rfl)) (ks_c14 cy ad o 0 0 _)) 0 rfl rfl 11 (by decide) (hts (.fieldLink RX5 40 "SpinKernelModel" "groups" "[I") (by decide +kernel)) (fun _ h => h) rfl dX5_spinOf_92 ?_
            refine lv_aload_n hx hb dX5_spinOf_95 rfl (lv_at hl 0 rfl) ?_
            refine va_get (D := D) (ci := 5) (v := .ref (ad 22 0 0)) (C := RX5) (T := TX5) (N := 34) hx hb hts in_X5_spinOf_5 hown hK (ks_P1 hW (ks_v14 (i := 0) (j := 0) (hE 14 rfl)) (ks_c14 cy ad o 0 0 _)) 0 rfl rfl 8 (by decide) (hts (.fieldLink RX5 31 "SpinKernelModel" "locks" "[I") (by decide +kernel)) (fun _ h => h) rfl dX5_spinOf_96 ?_
            refine lv_bipush (v := 6) hx hb dX5_spinOf_99 (by decide) ?_
            refine lv_iload_n hx hb dX5_spinOf_101 rfl (lv_at hl 1 rfl) ?_
            refine lv_imul hx hb dX5_spinOf_102 ?_
            refine lv_iload_n hx hb dX5_spinOf_103 rfl (lv_at hl 2 rfl) ?_
            refine lv_iadd hx hb dX5_spinOf_104 ?_
            obtain ⟨hi19, hf⟩ := ks_guard hf
            refine ks_iald hx hb hK hW (ks_v22 (i := 0) (j := 0) (hE 22 rfl)) (ks_c22 cy ad o 0 0 _) hi19 dX5_spinOf_105 ?_
            obtain ⟨hi20, hf⟩ := ks_guard hf
            refine ks_iald hx hb hK hW (ks_v25 (i := 0) (j := 0) (hE 25 rfl)) (ks_c25 cy ad o 0 0 _) hi20 dX5_spinOf_106 ?_
            refine lv_icmp_ne (tgt := 114) hx hb dX5_spinOf_107 (by decide) (fun c21 => ?_) (fun c21 => ?_)
            · rw [if_neg c21] at hf
              exact t_X5_spinOf_114 C hk5 hk17 hk27  hf hW hS (lv_sub hl [0, 1, 2, 3, 4, 5, 6, 7] rfl)
            · rw [if_pos c21] at hf
              refine lv_iconst (v := 1) hx hb dX5_spinOf_110 (by decide) ?_
              refine lv_goto (tgt := 115) hx hb dX5_spinOf_111 (by decide) ?_
              exact t_X5_spinOf_115 C hk5 hk17 hk27  hf hW hS (lv_sub hl [0, 1, 2, 3, 4, 5, 6, 7] rfl)
set_option maxHeartbeats 4000000 in
set_option maxRecDepth 100000 in
theorem t_X5_spinOf_17 {p : Program} {l : Launch} {e : Env} {s : State} {m : MethodId} {args : Array Value} {below : List Frame} {meth : Method} {c : Code} {D : va_G} {cy : Nat → ClassId} {ad : ks_A} {En : Nat → Prop} {n0 : Nat → Prop} {σ0 : ks_S} {o : Int64} {N : Nat} {out : (Int32 × ks_S)} (C : ks_M p s m args meth c D cy ad En (fun k => ks_g k = 1) n0 σ0 o wsX5_spinOf cX5_spinOf RX5 9 (some .int)) {k5 : ks_S → Int32 → Int32 → Int32 → Int32 → Option (Int32 × ks_S)} (hk5 : ∀ (σ : ks_S) (x1 : Int32) (x2 : Int32) (x3 : Int32) (x4 : Int32), k5 σ x1 x2 x3 x4 = some out → ∀ {H : Heap} {locs : List Loc} {ls : Array Slot}, ks_W D cy ad En σ o H → va_S (ks_F n0) s.heap H locs → lv_has ls 9 [(0, .ref (ad 14 0 0)), (1, .int x1), (2, .int x2), (3, .int x3), (4, .int x4)] → W p l e (ks_Rm 1 0 0 22) s m args below meth c H locs 0 0 (MQ below (ks_Qi D cy ad En n0 o out) args s 0 0 (ks_F n0)) (F0 m 5 ls [])) : ∀ (n : Nat) (σ : ks_S) (x1 : Int32) (x2 : Int32) (x3 : Int32) (x4 : Int32) (x5 : Int32) (x6 : Int32), f_X5_spinOf_17 N k5 n σ x1 x2 x3 x4 x5 x6 = some out → ∀ {H : Heap} {locs : List Loc} {ls : Array Slot}, ks_W D cy ad En σ o H → va_S (ks_F n0) s.heap H locs → lv_has ls 9 [(0, .ref (ad 14 0 0)), (1, .int x1), (2, .int x2), (3, .int x3), (4, .int x4), (5, .int x5), (6, .int x6)] → W p l e (ks_Rm 1 0 0 22) s m args below meth c H locs 0 0 (MQ below (ks_Qi D cy ad En n0 o out) args s 0 0 (ks_F n0)) (F0 m 17 ls []) := by
  obtain ⟨hx, hb, hml, hr, hown, hts, hlocks, hG, hU0, hE⟩ := id C
  have hK := hU0.2.2
  intro n
  induction n with
  | zero => intro σ x1 x2 x3 x4 x5 x6; intro  hf; exact absurd hf (by simp [f_X5_spinOf_17])
  | succ n hk17 =>
    intro σ x1 x2 x3 x4 x5 x6  hf H locs ls hW hS hl
    rw [f_X5_spinOf_17] at hf
    refine lv_iload hx hb dX5_spinOf_17 (lv_at hl 6 rfl) ?_
    refine lv_bipush (v := 16) hx hb dX5_spinOf_19 (by decide) ?_
    refine lv_icmp_ge (tgt := 172) hx hb dX5_spinOf_21 (by decide) (fun c2 => ?_) (fun c2 => ?_)
    · rw [if_pos c2] at hf
      refine lv_iload_n hx hb dX5_spinOf_172 rfl (lv_at hl 3 rfl) ?_
      refine lv_iload hx hb dX5_spinOf_173 (lv_at hl 5 rfl) ?_
      refine lv_iadd hx hb dX5_spinOf_175 ?_
      refine lv_istore_n (lv' := [(3, .int (x3 + x5)), (0, .ref (ad 14 0 0)), (1, .int x1), (2, .int x2), (4, .int x4), (5, .int x5), (6, .int x6)]) hx hb dX5_spinOf_176 rfl hl (by decide) rfl (fun ls hl => ?_)
      refine lv_iinc (v := (x4 + 1)) (lv' := [(4, .int (x4 + 1)), (3, .int (x3 + x5)), (0, .ref (ad 14 0 0)), (1, .int x1), (2, .int x2), (5, .int x5), (6, .int x6)]) hx hb dX5_spinOf_177 hl (k := 4) rfl rfl (by decide) rfl (fun ls hl => ?_)
      refine lv_goto (tgt := 5) hx hb dX5_spinOf_180 (by decide) ?_
      exact hk5 _ _ _ _ _ hf hW hS (lv_sub hl [2, 3, 4, 1, 0] rfl)
    · rw [if_neg c2] at hf
      refine lv_iconst (v := 0) hx hb dX5_spinOf_24 (by decide) ?_
      refine lv_istore (lv' := [(7, .int 0), (0, .ref (ad 14 0 0)), (1, .int x1), (2, .int x2), (3, .int x3), (4, .int x4), (5, .int x5), (6, .int x6)]) hx hb dX5_spinOf_25 hl (by decide) rfl (fun ls hl => ?_)
      exact t_X5_spinOf_27 C hk5 hk17 _ _ _ _ _ _ _ _ _  hf hW hS (lv_sub hl [1, 2, 3, 4, 5, 6, 7, 0] rfl)
set_option maxHeartbeats 4000000 in
set_option maxRecDepth 100000 in
theorem t_X5_spinOf_5 {p : Program} {l : Launch} {e : Env} {s : State} {m : MethodId} {args : Array Value} {below : List Frame} {meth : Method} {c : Code} {D : va_G} {cy : Nat → ClassId} {ad : ks_A} {En : Nat → Prop} {n0 : Nat → Prop} {σ0 : ks_S} {o : Int64} {N : Nat} {out : (Int32 × ks_S)} (C : ks_M p s m args meth c D cy ad En (fun k => ks_g k = 1) n0 σ0 o wsX5_spinOf cX5_spinOf RX5 9 (some .int)) : ∀ (n : Nat) (σ : ks_S) (x1 : Int32) (x2 : Int32) (x3 : Int32) (x4 : Int32), f_X5_spinOf_5 N n σ x1 x2 x3 x4 = some out → ∀ {H : Heap} {locs : List Loc} {ls : Array Slot}, ks_W D cy ad En σ o H → va_S (ks_F n0) s.heap H locs → lv_has ls 9 [(0, .ref (ad 14 0 0)), (1, .int x1), (2, .int x2), (3, .int x3), (4, .int x4)] → W p l e (ks_Rm 1 0 0 22) s m args below meth c H locs 0 0 (MQ below (ks_Qi D cy ad En n0 o out) args s 0 0 (ks_F n0)) (F0 m 5 ls []) := by
  obtain ⟨hx, hb, hml, hr, hown, hts, hlocks, hG, hU0, hE⟩ := id C
  have hK := hU0.2.2
  intro n
  induction n with
  | zero => intro σ x1 x2 x3 x4; intro  hf; exact absurd hf (by simp [f_X5_spinOf_5])
  | succ n hk5 =>
    intro σ x1 x2 x3 x4  hf H locs ls hW hS hl
    rw [f_X5_spinOf_5] at hf
    refine lv_iload hx hb dX5_spinOf_5 (lv_at hl 4 rfl) ?_
    refine lv_iconst (v := 4) hx hb dX5_spinOf_7 (by decide) ?_
    refine lv_icmp_ge (tgt := 183) hx hb dX5_spinOf_8 (by decide) (fun c1 => ?_) (fun c1 => ?_)
    · rw [if_pos c1] at hf
      refine lv_iload_n hx hb dX5_spinOf_183 rfl (lv_at hl 3 rfl) ?_
      exact ks_iret C hf hW hS dX5_spinOf_184
    · rw [if_neg c1] at hf
      refine lv_iconst (v := 0) hx hb dX5_spinOf_11 (by decide) ?_
      refine lv_istore (lv' := [(5, .int 0), (0, .ref (ad 14 0 0)), (1, .int x1), (2, .int x2), (3, .int x3), (4, .int x4)]) hx hb dX5_spinOf_12 hl (by decide) rfl (fun ls hl => ?_)
      refine lv_iconst (v := 0) hx hb dX5_spinOf_14 (by decide) ?_
      refine lv_istore (lv' := [(6, .int 0), (5, .int 0), (0, .ref (ad 14 0 0)), (1, .int x1), (2, .int x2), (3, .int x3), (4, .int x4)]) hx hb dX5_spinOf_15 hl (by decide) rfl (fun ls hl => ?_)
      exact t_X5_spinOf_17 C hk5 _ _ _ _ _ _ _ _  hf hW hS (lv_sub hl [2, 3, 4, 5, 6, 1, 0] rfl)
set_option maxHeartbeats 4000000 in
set_option maxRecDepth 100000 in
theorem t_X5_spinOf {p : Program} {l : Launch} {e : Env} {s : State} {m : MethodId} {args : Array Value} {below : List Frame} {meth : Method} {c : Code} {D : va_G} {cy : Nat → ClassId} {ad : ks_A} {En : Nat → Prop} {n0 : Nat → Prop} {σ0 : ks_S} {o : Int64} {N : Nat} {out : (Int32 × ks_S)} (C : ks_M p s m args meth c D cy ad En (fun k => ks_g k = 1) n0 σ0 o wsX5_spinOf cX5_spinOf RX5 9 (some .int)) {σ : ks_S} {x1 : Int32} {x2 : Int32}  (hf : f_X5_spinOf N σ x1 x2 = some out) {H : Heap} {locs : List Loc} {ls : Array Slot} (hW : ks_W D cy ad En σ o H) (hS : va_S (ks_F n0) s.heap H locs) (hl : lv_has ls 9 [(0, .ref (ad 14 0 0)), (1, .int x1), (2, .int x2)]) : W p l e (ks_Rm 1 0 0 22) s m args below meth c H locs 0 0 (MQ below (ks_Qi D cy ad En n0 o out) args s 0 0 (ks_F n0)) (F0 m 0 ls []) := by
  obtain ⟨hx, hb, hml, hr, hown, hts, hlocks, hG, hU0, hE⟩ := id C
  have hK := hU0.2.2
  unfold f_X5_spinOf at hf
  refine lv_iconst (v := 0) hx hb dX5_spinOf_0 (by decide) ?_
  refine lv_istore_n (lv' := [(3, .int 0), (0, .ref (ad 14 0 0)), (1, .int x1), (2, .int x2)]) hx hb dX5_spinOf_1 rfl hl (by decide) rfl (fun ls hl => ?_)
  refine lv_iconst (v := 0) hx hb dX5_spinOf_2 (by decide) ?_
  refine lv_istore (lv' := [(4, .int 0), (3, .int 0), (0, .ref (ad 14 0 0)), (1, .int x1), (2, .int x2)]) hx hb dX5_spinOf_3 hl (by decide) rfl (fun ls hl => ?_)
  exact t_X5_spinOf_5 C _ _ _ _ _ _  hf hW hS (lv_sub hl [2, 3, 4, 1, 0] rfl)
set_option maxHeartbeats 4000000 in
set_option maxRecDepth 100000 in
theorem m_X5_spinOf (l : Launch) (D : va_G) (cy : Nat → ClassId) (ad : ks_A) (En : Nat → Prop) (n0 : Nat → Prop) (hG : ks_G ad En n0) (hE : ∀ k, ks_g k = 1 → En k) (o : Int64) {N : Nat} {σ : ks_S} {x1 : Int32} {x2 : Int32}  {out : (Int32 × ks_S)} (hf : f_X5_spinOf N σ x1 x2 = some out) : Met l yX5_spinOf wsX5_spinOf (ks_Rm 1 0 0 22) (va_Pc [.ref (ad 14 0 0), .int x1, .int x2] (ks_U D cy ad En n0 σ o)) (ks_Qi D cy ad En n0 o out) 0 0 (ks_F n0) := by
  refine Met.ofW (cc := cX5_spinOf) (maxL := 9) (ret := some .int) (by decide) rfl ?_
  intro p e s m args below meth c s₁ B hml hv
  obtain ⟨rfl, hU⟩ := hv
  have hl := lv_entry ([.ref (ad 14 0 0), .int x1, .int x2]) (n := 9) (Nat.le_of_ble_eq_true rfl)
  rw [lg_entry_eq]
  generalize (lg_sl ([.ref (ad 14 0 0), .int x1, .int x2]) ++ List.replicate (9 - (lg_sl ([.ref (ad 14 0 0), .int x1, .int x2])).length) Slot.unset).toArray = ls at hl ⊢
  exact t_X5_spinOf ⟨B.exec, B.bytes, hml, B.returns, findClass_of_methodNamed B.named, atoms_spec (ws := wsX5_spinOf) B.pre, B.notSynchronized, hG, hU, hE⟩  hf hU.2.1 va_S.rf hl

/-! SpinKernelModel.spin(II)I -/
def f_X5_spin_15 (N : Nat) (σ : ks_S) (x1 : Int32) (x2 : Int32) (xs0 : Int32) : Option (Int32 × ks_S) :=
  ((f_X5_refused σ xs0 0 0).bind fun (r7, s6) => (if r7 = 0 then ((f_X5_findGroups N s6).bind fun s10 => ((f_X5_isOuter s10 x1 x2).bind fun (r14, s13) => (if r14 = 0 then some (0, s13) else ((f_X5_spinOf N s13 x1 x2).bind fun (r18, s17) => some (r18, s17))))) else some (0, s6)))
def f_X5_spin (N : Nat) (σ : ks_S) (x1 : Int32) (x2 : Int32) : Option (Int32 × ks_S) :=
  ((f_X5_isRequest σ x1 x2).bind fun (r3, s2) => (if r3 = 0 then f_X5_spin_15 N s2 x1 x2 1 else f_X5_spin_15 N s2 x1 x2 0))
set_option maxHeartbeats 4000000 in
set_option maxRecDepth 100000 in
theorem t_X5_spin_15 {p : Program} {l : Launch} {e : Env} {s : State} {m : MethodId} {args : Array Value} {below : List Frame} {meth : Method} {c : Code} {D : va_G} {cy : Nat → ClassId} {ad : ks_A} {En : Nat → Prop} {n0 : Nat → Prop} {σ0 : ks_S} {o : Int64} {N : Nat} {out : (Int32 × ks_S)} (C : ks_M p s m args meth c D cy ad En (fun k => ks_g k = 1) n0 σ0 o wsX5_spin cX5_spin RX5 3 (some .int)) {σ : ks_S} {x1 : Int32} {x2 : Int32} {xs0 : Int32}  (hf : f_X5_spin_15 N σ x1 x2 xs0 = some out) {H : Heap} {locs : List Loc} {ls : Array Slot} (hW : ks_W D cy ad En σ o H) (hS : va_S (ks_F n0) s.heap H locs) (hl : lv_has ls 3 [(0, .ref (ad 14 0 0)), (1, .int x1), (2, .int x2)]) : W p l e (ks_Rm 2 0 0 50) s m args below meth c H locs 0 0 (MQ below (ks_Qi D cy ad En n0 o out) args s 0 0 (ks_F n0)) (F0 m 15 ls [.int xs0, .ref (ad 14 0 0)]) := by
  obtain ⟨hx, hb, hml, hr, hown, hts, hlocks, hG, hU0, hE⟩ := id C
  have hK := hU0.2.2
  unfold f_X5_spin_15 at hf
  refine lv_iconst (v := 0) hx hb dX5_spin_15 (by decide) ?_
  refine lv_iconst (v := 0) hx hb dX5_spin_16 (by decide) ?_
  obtain ⟨⟨r7, s6⟩, hc5, hf⟩ := ks_bind hf
  try dsimp only at hf
  refine ks_calli (va_runV (As := [.int xs0, .int 0, .int 0]) (rest := []) ⟨hx, hb, hml, hown, hts⟩ (m_X5_refused l D cy ad En n0 hG hE o hc5) (cwV 3 hts gX5_spin_X5_refused rfl rfl rfl (by decide +kernel) ⟨(Nat.le_of_ble_eq_true rfl), (Nat.le_of_ble_eq_true rfl)⟩) ⟨ks_U.blind, ks_recv hK hW (ks_v14 (i := 0) (j := 0) (hE 14 rfl)) (ks_c14 cy ad o 0 0 _) rfl, fun U hU hWm => ⟨rfl, hU0.now hS hW hWm.alike hU⟩⟩ rfl rfl hl.1 rfl (lv_room (Nat.le_of_ble_eq_true rfl)) dX5_spin_17 ⟨(Nat.le_of_ble_eq_true rfl), (Nat.le_of_ble_eq_true rfl)⟩) hS (fun H locs hW hS => ?_)
  refine lv_if_eq (tgt := 25) hx hb dX5_spin_20 (by decide) (fun c8 => ?_) (fun c8 => ?_)
  · rw [if_pos c8] at hf
    refine lv_aload_n hx hb dX5_spin_25 rfl (lv_at hl 0 rfl) ?_
    obtain ⟨s10, hc9, hf⟩ := ks_bind hf
    try dsimp only at hf
    refine ks_callv (va_runV (As := []) (rest := []) ⟨hx, hb, hml, hown, hts⟩ (m_X5_findGroups l D cy ad En n0 hG hE o hc9) (cwV 0 hts gX5_spin_X5_findGroups rfl rfl rfl (by decide +kernel) ⟨(Nat.le_of_ble_eq_true rfl), (Nat.le_of_ble_eq_true rfl)⟩) ⟨ks_U.blind, ks_recv hK hW (ks_v14 (i := 0) (j := 0) (hE 14 rfl)) (ks_c14 cy ad o 0 0 _) rfl, fun U hU hWm => ⟨rfl, hU0.now hS hW hWm.alike hU⟩⟩ rfl rfl hl.1 rfl (lv_room (Nat.le_of_ble_eq_true rfl)) dX5_spin_26 ⟨(Nat.le_of_ble_eq_true rfl), (Nat.le_of_ble_eq_true rfl)⟩) hS (fun H locs hW hS => ?_)
    refine lv_aload_n hx hb dX5_spin_29 rfl (lv_at hl 0 rfl) ?_
    refine lv_iload_n hx hb dX5_spin_30 rfl (lv_at hl 1 rfl) ?_
    refine lv_iload_n hx hb dX5_spin_31 rfl (lv_at hl 2 rfl) ?_
    obtain ⟨⟨r14, s13⟩, hc12, hf⟩ := ks_bind hf
    try dsimp only at hf
    refine ks_calli (va_runV (As := [.int x1, .int x2]) (rest := []) ⟨hx, hb, hml, hown, hts⟩ (m_X5_isOuter l D cy ad En n0 hG hE o hc12) (cwV 2 hts gX5_spin_X5_isOuter rfl rfl rfl (by decide +kernel) ⟨(Nat.le_of_ble_eq_true rfl), (Nat.le_of_ble_eq_true rfl)⟩) ⟨ks_U.blind, ks_recv hK hW (ks_v14 (i := 0) (j := 0) (hE 14 rfl)) (ks_c14 cy ad o 0 0 _) rfl, fun U hU hWm => ⟨rfl, hU0.now hS hW hWm.alike hU⟩⟩ rfl rfl hl.1 rfl (lv_room (Nat.le_of_ble_eq_true rfl)) dX5_spin_32 ⟨(Nat.le_of_ble_eq_true rfl), (Nat.le_of_ble_eq_true rfl)⟩) hS (fun H locs hW hS => ?_)
    refine lv_if_eq (tgt := 47) hx hb dX5_spin_35 (by decide) (fun c15 => ?_) (fun c15 => ?_)
    · rw [if_pos c15] at hf
      refine lv_iconst (v := 0) hx hb dX5_spin_47 (by decide) ?_
      exact ks_iret C hf hW hS dX5_spin_48
    · rw [if_neg c15] at hf
      refine lv_aload_n hx hb dX5_spin_38 rfl (lv_at hl 0 rfl) ?_
      refine lv_iload_n hx hb dX5_spin_39 rfl (lv_at hl 1 rfl) ?_
      refine lv_iload_n hx hb dX5_spin_40 rfl (lv_at hl 2 rfl) ?_
      obtain ⟨⟨r18, s17⟩, hc16, hf⟩ := ks_bind hf
      try dsimp only at hf
      refine ks_calli (va_runV (As := [.int x1, .int x2]) (rest := []) ⟨hx, hb, hml, hown, hts⟩ (m_X5_spinOf l D cy ad En n0 hG hE o hc16) (cwV 2 hts gX5_spin_X5_spinOf rfl rfl rfl (by decide +kernel) ⟨(Nat.le_of_ble_eq_true rfl), (Nat.le_of_ble_eq_true rfl)⟩) ⟨ks_U.blind, ks_recv hK hW (ks_v14 (i := 0) (j := 0) (hE 14 rfl)) (ks_c14 cy ad o 0 0 _) rfl, fun U hU hWm => ⟨rfl, hU0.now hS hW hWm.alike hU⟩⟩ rfl rfl hl.1 rfl (lv_room (Nat.le_of_ble_eq_true rfl)) dX5_spin_41 ⟨(Nat.le_of_ble_eq_true rfl), (Nat.le_of_ble_eq_true rfl)⟩) hS (fun H locs hW hS => ?_)
      refine lv_goto (tgt := 48) hx hb dX5_spin_44 (by decide) ?_
      exact ks_iret C hf hW hS dX5_spin_48
  · rw [if_neg c8] at hf
    refine lv_iconst (v := 0) hx hb dX5_spin_23 (by decide) ?_
    exact ks_iret C hf hW hS dX5_spin_24
set_option maxHeartbeats 4000000 in
set_option maxRecDepth 100000 in
theorem t_X5_spin {p : Program} {l : Launch} {e : Env} {s : State} {m : MethodId} {args : Array Value} {below : List Frame} {meth : Method} {c : Code} {D : va_G} {cy : Nat → ClassId} {ad : ks_A} {En : Nat → Prop} {n0 : Nat → Prop} {σ0 : ks_S} {o : Int64} {N : Nat} {out : (Int32 × ks_S)} (C : ks_M p s m args meth c D cy ad En (fun k => ks_g k = 1) n0 σ0 o wsX5_spin cX5_spin RX5 3 (some .int)) {σ : ks_S} {x1 : Int32} {x2 : Int32}  (hf : f_X5_spin N σ x1 x2 = some out) {H : Heap} {locs : List Loc} {ls : Array Slot} (hW : ks_W D cy ad En σ o H) (hS : va_S (ks_F n0) s.heap H locs) (hl : lv_has ls 3 [(0, .ref (ad 14 0 0)), (1, .int x1), (2, .int x2)]) : W p l e (ks_Rm 2 0 0 50) s m args below meth c H locs 0 0 (MQ below (ks_Qi D cy ad En n0 o out) args s 0 0 (ks_F n0)) (F0 m 0 ls []) := by
  obtain ⟨hx, hb, hml, hr, hown, hts, hlocks, hG, hU0, hE⟩ := id C
  have hK := hU0.2.2
  unfold f_X5_spin at hf
  refine lv_aload_n hx hb dX5_spin_0 rfl (lv_at hl 0 rfl) ?_
  refine lv_aload_n hx hb dX5_spin_1 rfl (lv_at hl 0 rfl) ?_
  refine lv_iload_n hx hb dX5_spin_2 rfl (lv_at hl 1 rfl) ?_
  refine lv_iload_n hx hb dX5_spin_3 rfl (lv_at hl 2 rfl) ?_
  obtain ⟨⟨r3, s2⟩, hc1, hf⟩ := ks_bind hf
  try dsimp only at hf
  refine ks_calli (va_runV (As := [.int x1, .int x2]) (rest := [.ref (ad 14 0 0)]) ⟨hx, hb, hml, hown, hts⟩ (m_X5_isRequest l D cy ad En n0 hG hE o hc1) (cwV 2 hts gX5_spin_X5_isRequest rfl rfl rfl (by decide +kernel) ⟨(Nat.le_of_ble_eq_true rfl), (Nat.le_of_ble_eq_true rfl)⟩) ⟨ks_U.blind, ks_recv hK hW (ks_v14 (i := 0) (j := 0) (hE 14 rfl)) (ks_c14 cy ad o 0 0 _) rfl, fun U hU hWm => ⟨rfl, hU0.now hS hW hWm.alike hU⟩⟩ rfl rfl hl.1 rfl (lv_room (Nat.le_of_ble_eq_true rfl)) dX5_spin_4 ⟨(Nat.le_of_ble_eq_true rfl), (Nat.le_of_ble_eq_true rfl)⟩) hS (fun H locs hW hS => ?_)
  refine lv_if_ne (tgt := 14) hx hb dX5_spin_7 (by decide) (fun c4 => ?_) (fun c4 => ?_)
  · rw [if_neg c4] at hf
    refine lv_iconst (v := 0) hx hb dX5_spin_14 (by decide) ?_
    exact t_X5_spin_15 C  hf hW hS (lv_sub hl [0, 1, 2] rfl)
  · rw [if_pos c4] at hf
    refine lv_iconst (v := 1) hx hb dX5_spin_10 (by decide) ?_
    refine lv_goto (tgt := 15) hx hb dX5_spin_11 (by decide) ?_
    exact t_X5_spin_15 C  hf hW hS (lv_sub hl [0, 1, 2] rfl)
set_option maxHeartbeats 4000000 in
set_option maxRecDepth 100000 in
theorem m_X5_spin (l : Launch) (D : va_G) (cy : Nat → ClassId) (ad : ks_A) (En : Nat → Prop) (n0 : Nat → Prop) (hG : ks_G ad En n0) (hE : ∀ k, ks_g k = 1 → En k) (o : Int64) {N : Nat} {σ : ks_S} {x1 : Int32} {x2 : Int32}  {out : (Int32 × ks_S)} (hf : f_X5_spin N σ x1 x2 = some out) : Met l yX5_spin wsX5_spin (ks_Rm 2 0 0 50) (va_Pc [.ref (ad 14 0 0), .int x1, .int x2] (ks_U D cy ad En n0 σ o)) (ks_Qi D cy ad En n0 o out) 0 0 (ks_F n0) := by
  refine Met.ofW (cc := cX5_spin) (maxL := 3) (ret := some .int) (by decide) rfl ?_
  intro p e s m args below meth c s₁ B hml hv
  obtain ⟨rfl, hU⟩ := hv
  have hl := lv_entry ([.ref (ad 14 0 0), .int x1, .int x2]) (n := 3) (Nat.le_of_ble_eq_true rfl)
  rw [lg_entry_eq]
  generalize (lg_sl ([.ref (ad 14 0 0), .int x1, .int x2]) ++ List.replicate (3 - (lg_sl ([.ref (ad 14 0 0), .int x1, .int x2])).length) Slot.unset).toArray = ls at hl ⊢
  exact t_X5_spin ⟨B.exec, B.bytes, hml, B.returns, findClass_of_methodNamed B.named, atoms_spec (ws := wsX5_spin) B.pre, B.notSynchronized, hG, hU, hE⟩  hf hU.2.1 va_S.rf hl

/-! SpinKernelModel.inflated(I)I -/
def f_X5_inflated_9 (N : Nat) : Nat → ks_S → Int32 → Int32 → Int32 → Option (Int32 × ks_S)
  | 0, _, _, _, _ => none
  | n + 1, σ, x1, x2, x3 => (if ks_in x1 16 = true then (if ((σ 20 0 0 x1.toNatClampNeg)) ≤ x3 then some (x2, σ) else ((f_X5_isOuter σ x1 x3).bind fun (r6, s5) => (if r6 = 0 then f_X5_inflated_9 N n s5 x1 x2 ((x3 + 1)) else (if ks_in ((((6 * x1)) + x3)) 96 = true then ((f_X5_spinOf N s5 x1 x3).bind fun (r11, s10) => f_X5_inflated_9 N n s10 x1 ((((x2 + ((s5 23 0 0 ((((6 * x1)) + x3)).toNatClampNeg)))) + r11)) ((x3 + 1))) else none)))) else none)
def f_X5_inflated (N : Nat) (σ : ks_S) (x1 : Int32) : Option (Int32 × ks_S) :=
  (if ks_in x1 16 = true then f_X5_inflated_9 N N σ x1 ((σ 19 0 0 x1.toNatClampNeg)) 0 else none)
theorem in_X5_inflated_5 : ∀ w ∈ wsX50, w ∈ wsX5_inflated := by decide +kernel
set_option maxHeartbeats 4000000 in
set_option maxRecDepth 100000 in
theorem t_X5_inflated_9 {p : Program} {l : Launch} {e : Env} {s : State} {m : MethodId} {args : Array Value} {below : List Frame} {meth : Method} {c : Code} {D : va_G} {cy : Nat → ClassId} {ad : ks_A} {En : Nat → Prop} {n0 : Nat → Prop} {σ0 : ks_S} {o : Int64} {N : Nat} {out : (Int32 × ks_S)} (C : ks_M p s m args meth c D cy ad En (fun k => ks_g k = 1) n0 σ0 o wsX5_inflated cX5_inflated RX5 4 (some .int)) : ∀ (n : Nat) (σ : ks_S) (x1 : Int32) (x2 : Int32) (x3 : Int32), f_X5_inflated_9 N n σ x1 x2 x3 = some out → ∀ {H : Heap} {locs : List Loc} {ls : Array Slot}, ks_W D cy ad En σ o H → va_S (ks_F n0) s.heap H locs → lv_has ls 4 [(0, .ref (ad 14 0 0)), (1, .int x1), (2, .int x2), (3, .int x3)] → W p l e (ks_Rm 2 0 0 50) s m args below meth c H locs 0 0 (MQ below (ks_Qi D cy ad En n0 o out) args s 0 0 (ks_F n0)) (F0 m 9 ls []) := by
  obtain ⟨hx, hb, hml, hr, hown, hts, hlocks, hG, hU0, hE⟩ := id C
  have hK := hU0.2.2
  intro n
  induction n with
  | zero => intro σ x1 x2 x3; intro  hf; exact absurd hf (by simp [f_X5_inflated_9])
  | succ n hk9 =>
    intro σ x1 x2 x3  hf H locs ls hW hS hl
    rw [f_X5_inflated_9] at hf
    refine lv_iload_n hx hb dX5_inflated_9 rfl (lv_at hl 3 rfl) ?_
    refine lv_aload_n hx hb dX5_inflated_10 rfl (lv_at hl 0 rfl) ?_
    refine va_get (D := D) (ci := 5) (v := .ref (ad 20 0 0)) (C := RX5) (T := TX5) (N := 34) hx hb hts in_X5_inflated_5 hown hK (ks_P1 hW (ks_v14 (i := 0) (j := 0) (hE 14 rfl)) (ks_c14 cy ad o 0 0 _)) 0 rfl rfl 6 (by decide) (hts (.fieldLink RX5 25 "SpinKernelModel" "counts" "[I") (by decide +kernel)) (fun _ h => h) rfl dX5_inflated_11 ?_
    refine lv_iload_n hx hb dX5_inflated_14 rfl (lv_at hl 1 rfl) ?_
    obtain ⟨hi2, hf⟩ := ks_guard hf
    refine ks_iald hx hb hK hW (ks_v20 (i := 0) (j := 0) (hE 20 rfl)) (ks_c20 cy ad o 0 0 _) hi2 dX5_inflated_15 ?_
    refine lv_icmp_ge (tgt := 59) hx hb dX5_inflated_16 (by decide) (fun c3 => ?_) (fun c3 => ?_)
    · rw [if_pos c3] at hf
      refine lv_iload_n hx hb dX5_inflated_59 rfl (lv_at hl 2 rfl) ?_
      exact ks_iret C hf hW hS dX5_inflated_60
    · rw [if_neg c3] at hf
      refine lv_aload_n hx hb dX5_inflated_19 rfl (lv_at hl 0 rfl) ?_
      refine lv_iload_n hx hb dX5_inflated_20 rfl (lv_at hl 1 rfl) ?_
      refine lv_iload_n hx hb dX5_inflated_21 rfl (lv_at hl 3 rfl) ?_
      obtain ⟨⟨r6, s5⟩, hc4, hf⟩ := ks_bind hf
      try dsimp only at hf
      refine ks_calli (va_runV (As := [.int x1, .int x3]) (rest := []) ⟨hx, hb, hml, hown, hts⟩ (m_X5_isOuter l D cy ad En n0 hG hE o hc4) (cwV 2 hts gX5_inflated_X5_isOuter rfl rfl rfl (by decide +kernel) ⟨(Nat.le_of_ble_eq_true rfl), (Nat.le_of_ble_eq_true rfl)⟩) ⟨ks_U.blind, ks_recv hK hW (ks_v14 (i := 0) (j := 0) (hE 14 rfl)) (ks_c14 cy ad o 0 0 _) rfl, fun U hU hWm => ⟨rfl, hU0.now hS hW hWm.alike hU⟩⟩ rfl rfl hl.1 rfl (lv_room (Nat.le_of_ble_eq_true rfl)) dX5_inflated_22 ⟨(Nat.le_of_ble_eq_true rfl), (Nat.le_of_ble_eq_true rfl)⟩) hS (fun H locs hW hS => ?_)
      refine lv_if_eq (tgt := 51) hx hb dX5_inflated_25 (by decide) (fun c7 => ?_) (fun c7 => ?_)
      · rw [if_pos c7] at hf
        refine lv_iload_n hx hb dX5_inflated_51 rfl (lv_at hl 2 rfl) ?_
        refine lv_istore_n (lv' := [(2, .int x2), (0, .ref (ad 14 0 0)), (1, .int x1), (3, .int x3)]) hx hb dX5_inflated_52 rfl hl (by decide) rfl (fun ls hl => ?_)
        refine lv_iinc (v := (x3 + 1)) (lv' := [(3, .int (x3 + 1)), (2, .int x2), (0, .ref (ad 14 0 0)), (1, .int x1)]) hx hb dX5_inflated_53 hl (k := 3) rfl rfl (by decide) rfl (fun ls hl => ?_)
        refine lv_goto (tgt := 9) hx hb dX5_inflated_56 (by decide) ?_
        exact hk9 _ _ _ _ hf hW hS (lv_sub hl [2, 3, 1, 0] rfl)
      · rw [if_neg c7] at hf
        refine lv_iload_n hx hb dX5_inflated_28 rfl (lv_at hl 2 rfl) ?_
        refine lv_aload_n hx hb dX5_inflated_29 rfl (lv_at hl 0 rfl) ?_
        refine va_get (D := D) (ci := 5) (v := .ref (ad 23 0 0)) (C := RX5) (T := TX5) (N := 34) hx hb hts in_X5_inflated_5 hown hK (ks_P1 hW (ks_v14 (i := 0) (j := 0) (hE 14 rfl)) (ks_c14 cy ad o 0 0 _)) 0 rfl rfl 9 (by decide) (hts (.fieldLink RX5 34 "SpinKernelModel" "lengths" "[I") (by decide +kernel)) (fun _ h => h) rfl dX5_inflated_30 ?_
        refine lv_bipush (v := 6) hx hb dX5_inflated_33 (by decide) ?_
        refine lv_iload_n hx hb dX5_inflated_35 rfl (lv_at hl 1 rfl) ?_
        refine lv_imul hx hb dX5_inflated_36 ?_
        refine lv_iload_n hx hb dX5_inflated_37 rfl (lv_at hl 3 rfl) ?_
        refine lv_iadd hx hb dX5_inflated_38 ?_
        obtain ⟨hi8, hf⟩ := ks_guard hf
        refine ks_iald hx hb hK hW (ks_v23 (i := 0) (j := 0) (hE 23 rfl)) (ks_c23 cy ad o 0 0 _) hi8 dX5_inflated_39 ?_
        refine lv_iadd hx hb dX5_inflated_40 ?_
        refine lv_aload_n hx hb dX5_inflated_41 rfl (lv_at hl 0 rfl) ?_
        refine lv_iload_n hx hb dX5_inflated_42 rfl (lv_at hl 1 rfl) ?_
        refine lv_iload_n hx hb dX5_inflated_43 rfl (lv_at hl 3 rfl) ?_
        obtain ⟨⟨r11, s10⟩, hc9, hf⟩ := ks_bind hf
        try dsimp only at hf
        refine ks_calli (va_runV (As := [.int x1, .int x3]) (rest := [.int (x2 + ((s5 23 0 0 ((((6 * x1)) + x3)).toNatClampNeg)))]) ⟨hx, hb, hml, hown, hts⟩ (m_X5_spinOf l D cy ad En n0 hG hE o hc9) (cwV 2 hts gX5_inflated_X5_spinOf rfl rfl rfl (by decide +kernel) ⟨(Nat.le_of_ble_eq_true rfl), (Nat.le_of_ble_eq_true rfl)⟩) ⟨ks_U.blind, ks_recv hK hW (ks_v14 (i := 0) (j := 0) (hE 14 rfl)) (ks_c14 cy ad o 0 0 _) rfl, fun U hU hWm => ⟨rfl, hU0.now hS hW hWm.alike hU⟩⟩ rfl rfl hl.1 rfl (lv_room (Nat.le_of_ble_eq_true rfl)) dX5_inflated_44 ⟨(Nat.le_of_ble_eq_true rfl), (Nat.le_of_ble_eq_true rfl)⟩) hS (fun H locs hW hS => ?_)
        refine lv_iadd hx hb dX5_inflated_47 ?_
        refine lv_goto (tgt := 52) hx hb dX5_inflated_48 (by decide) ?_
        refine lv_istore_n (lv' := [(2, .int (((x2 + ((s5 23 0 0 ((((6 * x1)) + x3)).toNatClampNeg)))) + r11)), (0, .ref (ad 14 0 0)), (1, .int x1), (3, .int x3)]) hx hb dX5_inflated_52 rfl hl (by decide) rfl (fun ls hl => ?_)
        refine lv_iinc (v := (x3 + 1)) (lv' := [(3, .int (x3 + 1)), (2, .int (((x2 + ((s5 23 0 0 ((((6 * x1)) + x3)).toNatClampNeg)))) + r11)), (0, .ref (ad 14 0 0)), (1, .int x1)]) hx hb dX5_inflated_53 hl (k := 3) rfl rfl (by decide) rfl (fun ls hl => ?_)
        refine lv_goto (tgt := 9) hx hb dX5_inflated_56 (by decide) ?_
        exact hk9 _ _ _ _ hf hW hS (lv_sub hl [2, 3, 1, 0] rfl)
set_option maxHeartbeats 4000000 in
set_option maxRecDepth 100000 in
theorem t_X5_inflated {p : Program} {l : Launch} {e : Env} {s : State} {m : MethodId} {args : Array Value} {below : List Frame} {meth : Method} {c : Code} {D : va_G} {cy : Nat → ClassId} {ad : ks_A} {En : Nat → Prop} {n0 : Nat → Prop} {σ0 : ks_S} {o : Int64} {N : Nat} {out : (Int32 × ks_S)} (C : ks_M p s m args meth c D cy ad En (fun k => ks_g k = 1) n0 σ0 o wsX5_inflated cX5_inflated RX5 4 (some .int)) {σ : ks_S} {x1 : Int32}  (hf : f_X5_inflated N σ x1 = some out) {H : Heap} {locs : List Loc} {ls : Array Slot} (hW : ks_W D cy ad En σ o H) (hS : va_S (ks_F n0) s.heap H locs) (hl : lv_has ls 4 [(0, .ref (ad 14 0 0)), (1, .int x1)]) : W p l e (ks_Rm 2 0 0 50) s m args below meth c H locs 0 0 (MQ below (ks_Qi D cy ad En n0 o out) args s 0 0 (ks_F n0)) (F0 m 0 ls []) := by
  obtain ⟨hx, hb, hml, hr, hown, hts, hlocks, hG, hU0, hE⟩ := id C
  have hK := hU0.2.2
  unfold f_X5_inflated at hf
  refine lv_aload_n hx hb dX5_inflated_0 rfl (lv_at hl 0 rfl) ?_
  refine va_get (D := D) (ci := 5) (v := .ref (ad 19 0 0)) (C := RX5) (T := TX5) (N := 34) hx hb hts in_X5_inflated_5 hown hK (ks_P1 hW (ks_v14 (i := 0) (j := 0) (hE 14 rfl)) (ks_c14 cy ad o 0 0 _)) 0 rfl rfl 5 (by decide) (hts (.fieldLink RX5 22 "SpinKernelModel" "works" "[I") (by decide +kernel)) (fun _ h => h) rfl dX5_inflated_1 ?_
  refine lv_iload_n hx hb dX5_inflated_4 rfl (lv_at hl 1 rfl) ?_
  obtain ⟨hi1, hf⟩ := ks_guard hf
  refine ks_iald hx hb hK hW (ks_v19 (i := 0) (j := 0) (hE 19 rfl)) (ks_c19 cy ad o 0 0 _) hi1 dX5_inflated_5 ?_
  refine lv_istore_n (lv' := [(2, .int (σ 19 0 0 x1.toNatClampNeg)), (0, .ref (ad 14 0 0)), (1, .int x1)]) hx hb dX5_inflated_6 rfl hl (by decide) rfl (fun ls hl => ?_)
  refine lv_iconst (v := 0) hx hb dX5_inflated_7 (by decide) ?_
  refine lv_istore_n (lv' := [(3, .int 0), (2, .int (σ 19 0 0 x1.toNatClampNeg)), (0, .ref (ad 14 0 0)), (1, .int x1)]) hx hb dX5_inflated_8 rfl hl (by decide) rfl (fun ls hl => ?_)
  exact t_X5_inflated_9 C _ _ _ _ _  hf hW hS (lv_sub hl [2, 3, 1, 0] rfl)
set_option maxHeartbeats 4000000 in
set_option maxRecDepth 100000 in
theorem m_X5_inflated (l : Launch) (D : va_G) (cy : Nat → ClassId) (ad : ks_A) (En : Nat → Prop) (n0 : Nat → Prop) (hG : ks_G ad En n0) (hE : ∀ k, ks_g k = 1 → En k) (o : Int64) {N : Nat} {σ : ks_S} {x1 : Int32}  {out : (Int32 × ks_S)} (hf : f_X5_inflated N σ x1 = some out) : Met l yX5_inflated wsX5_inflated (ks_Rm 2 0 0 50) (va_Pc [.ref (ad 14 0 0), .int x1] (ks_U D cy ad En n0 σ o)) (ks_Qi D cy ad En n0 o out) 0 0 (ks_F n0) := by
  refine Met.ofW (cc := cX5_inflated) (maxL := 4) (ret := some .int) (by decide) rfl ?_
  intro p e s m args below meth c s₁ B hml hv
  obtain ⟨rfl, hU⟩ := hv
  have hl := lv_entry ([.ref (ad 14 0 0), .int x1]) (n := 4) (Nat.le_of_ble_eq_true rfl)
  rw [lg_entry_eq]
  generalize (lg_sl ([.ref (ad 14 0 0), .int x1]) ++ List.replicate (4 - (lg_sl ([.ref (ad 14 0 0), .int x1])).length) Slot.unset).toArray = ls at hl ⊢
  exact t_X5_inflated ⟨B.exec, B.bytes, hml, B.returns, findClass_of_methodNamed B.named, atoms_spec (ws := wsX5_inflated) B.pre, B.notSynchronized, hG, hU, hE⟩  hf hU.2.1 va_S.rf hl

/-! SpinKernelModel.blocking(I)I -/
def f_X5_blocking_13 (N : Nat) (k4 : ks_S → Int32 → Int32 → Int32 → Option (Int32 × ks_S)) : Nat → ks_S → Int32 → Int32 → Int32 → Int32 → Option (Int32 × ks_S)
  | 0, _, _, _, _, _ => none
  | n + 1, σ, x1, x2, x3, x4 => (if ks_in x3 16 = true then (if ((σ 20 0 0 x3.toNatClampNeg)) ≤ x4 then k4 σ x1 x2 ((x3 + 1)) else (if ks_in x3 16 = true then (if ks_in x1 16 = true then (if ((σ 15 0 0 x3.toNatClampNeg)) = ((σ 15 0 0 x1.toNatClampNeg)) then (if ks_in x3 16 = true then (if ks_in x1 16 = true then (if ((σ 16 0 0 x1.toNatClampNeg)) ≤ ((σ 16 0 0 x3.toNatClampNeg)) then k4 σ x1 x2 ((x3 + 1)) else ((f_X5_isOuter σ x3 x4).bind fun (r12, s11) => (if r12 = 0 then (if 0 ≤ x2 then f_X5_blocking_13 N k4 n s11 x1 x2 x3 ((x4 + 1)) else f_X5_blocking_13 N k4 n s11 x1 0 x3 ((x4 + 1))) else (if ks_in ((((6 * x3)) + x4)) 96 = true then ((f_X5_spinOf N s11 x3 x4).bind fun (r18, s17) => (if ((((((s11 23 0 0 ((((6 * x3)) + x4)).toNatClampNeg)) + r18)) - 1)) ≤ x2 then f_X5_blocking_13 N k4 n s17 x1 x2 x3 ((x4 + 1)) else f_X5_blocking_13 N k4 n s17 x1 ((((((s11 23 0 0 ((((6 * x3)) + x4)).toNatClampNeg)) + r18)) - 1)) x3 ((x4 + 1)))) else none)))) else none) else none) else k4 σ x1 x2 ((x3 + 1))) else none) else none)) else none)
def f_X5_blocking_4 (N : Nat) : Nat → ks_S → Int32 → Int32 → Int32 → Option (Int32 × ks_S)
  | 0, _, _, _, _ => none
  | n + 1, σ, x1, x2, x3 => (if 16 ≤ x3 then some (x2, σ) else f_X5_blocking_13 N (f_X5_blocking_4 N n) N σ x1 x2 x3 0)
def f_X5_blocking (N : Nat) (σ : ks_S) (x1 : Int32) : Option (Int32 × ks_S) :=
  f_X5_blocking_4 N N σ x1 0 0
theorem in_X5_blocking_5 : ∀ w ∈ wsX50, w ∈ wsX5_blocking := by decide +kernel
set_option maxHeartbeats 4000000 in
set_option maxRecDepth 100000 in
theorem t_X5_blocking_13 {p : Program} {l : Launch} {e : Env} {s : State} {m : MethodId} {args : Array Value} {below : List Frame} {meth : Method} {c : Code} {D : va_G} {cy : Nat → ClassId} {ad : ks_A} {En : Nat → Prop} {n0 : Nat → Prop} {σ0 : ks_S} {o : Int64} {N : Nat} {out : (Int32 × ks_S)} (C : ks_M p s m args meth c D cy ad En (fun k => ks_g k = 1) n0 σ0 o wsX5_blocking cX5_blocking RX5 6 (some .int)) {k4 : ks_S → Int32 → Int32 → Int32 → Option (Int32 × ks_S)} (hk4 : ∀ (σ : ks_S) (x1 : Int32) (x2 : Int32) (x3 : Int32), k4 σ x1 x2 x3 = some out → ∀ {H : Heap} {locs : List Loc} {ls : Array Slot}, ks_W D cy ad En σ o H → va_S (ks_F n0) s.heap H locs → lv_has ls 6 [(0, .ref (ad 14 0 0)), (1, .int x1), (2, .int x2), (3, .int x3)] → W p l e (ks_Rm 2 0 0 50) s m args below meth c H locs 0 0 (MQ below (ks_Qi D cy ad En n0 o out) args s 0 0 (ks_F n0)) (F0 m 4 ls [])) : ∀ (n : Nat) (σ : ks_S) (x1 : Int32) (x2 : Int32) (x3 : Int32) (x4 : Int32), f_X5_blocking_13 N k4 n σ x1 x2 x3 x4 = some out → ∀ {H : Heap} {locs : List Loc} {ls : Array Slot}, ks_W D cy ad En σ o H → va_S (ks_F n0) s.heap H locs → lv_has ls 6 [(0, .ref (ad 14 0 0)), (1, .int x1), (2, .int x2), (3, .int x3), (4, .int x4)] → W p l e (ks_Rm 2 0 0 50) s m args below meth c H locs 0 0 (MQ below (ks_Qi D cy ad En n0 o out) args s 0 0 (ks_F n0)) (F0 m 13 ls []) := by
  obtain ⟨hx, hb, hml, hr, hown, hts, hlocks, hG, hU0, hE⟩ := id C
  have hK := hU0.2.2
  intro n
  induction n with
  | zero => intro σ x1 x2 x3 x4; intro  hf; exact absurd hf (by simp [f_X5_blocking_13])
  | succ n hk13 =>
    intro σ x1 x2 x3 x4  hf H locs ls hW hS hl
    rw [f_X5_blocking_13] at hf
    refine lv_iload hx hb dX5_blocking_13 (lv_at hl 4 rfl) ?_
    refine lv_aload_n hx hb dX5_blocking_15 rfl (lv_at hl 0 rfl) ?_
    refine va_get (D := D) (ci := 5) (v := .ref (ad 20 0 0)) (C := RX5) (T := TX5) (N := 34) hx hb hts in_X5_blocking_5 hown hK (ks_P1 hW (ks_v14 (i := 0) (j := 0) (hE 14 rfl)) (ks_c14 cy ad o 0 0 _)) 0 rfl rfl 6 (by decide) (hts (.fieldLink RX5 25 "SpinKernelModel" "counts" "[I") (by decide +kernel)) (fun _ h => h) rfl dX5_blocking_16 ?_
    refine lv_iload_n hx hb dX5_blocking_19 rfl (lv_at hl 3 rfl) ?_
    obtain ⟨hi2, hf⟩ := ks_guard hf
    refine ks_iald hx hb hK hW (ks_v20 (i := 0) (j := 0) (hE 20 rfl)) (ks_c20 cy ad o 0 0 _) hi2 dX5_blocking_20 ?_
    refine lv_icmp_ge (tgt := 111) hx hb dX5_blocking_21 (by decide) (fun c3 => ?_) (fun c3 => ?_)
    · rw [if_pos c3] at hf
      refine lv_iinc (v := (x3 + 1)) (lv' := [(3, .int (x3 + 1)), (0, .ref (ad 14 0 0)), (1, .int x1), (2, .int x2), (4, .int x4)]) hx hb dX5_blocking_111 hl (k := 3) rfl rfl (by decide) rfl (fun ls hl => ?_)
      refine lv_goto (tgt := 4) hx hb dX5_blocking_114 (by decide) ?_
      exact hk4 _ _ _ _ hf hW hS (lv_sub hl [1, 2, 3, 0] rfl)
    · rw [if_neg c3] at hf
      refine lv_aload_n hx hb dX5_blocking_24 rfl (lv_at hl 0 rfl) ?_
      refine va_get (D := D) (ci := 5) (v := .ref (ad 15 0 0)) (C := RX5) (T := TX5) (N := 34) hx hb hts in_X5_blocking_5 hown hK (ks_P1 hW (ks_v14 (i := 0) (j := 0) (hE 14 rfl)) (ks_c14 cy ad o 0 0 _)) 0 rfl rfl 1 (by decide) (hts (.fieldLink RX5 7 "SpinKernelModel" "cores" "[I") (by decide +kernel)) (fun _ h => h) rfl dX5_blocking_25 ?_
      refine lv_iload_n hx hb dX5_blocking_28 rfl (lv_at hl 3 rfl) ?_
      obtain ⟨hi4, hf⟩ := ks_guard hf
      refine ks_iald hx hb hK hW (ks_v15 (i := 0) (j := 0) (hE 15 rfl)) (ks_c15 cy ad o 0 0 _) hi4 dX5_blocking_29 ?_
      refine lv_aload_n hx hb dX5_blocking_30 rfl (lv_at hl 0 rfl) ?_
      refine va_get (D := D) (ci := 5) (v := .ref (ad 15 0 0)) (C := RX5) (T := TX5) (N := 34) hx hb hts in_X5_blocking_5 hown hK (ks_P1 hW (ks_v14 (i := 0) (j := 0) (hE 14 rfl)) (ks_c14 cy ad o 0 0 _)) 0 rfl rfl 1 (by decide) (hts (.fieldLink RX5 7 "SpinKernelModel" "cores" "[I") (by decide +kernel)) (fun _ h => h) rfl dX5_blocking_31 ?_
      refine lv_iload_n hx hb dX5_blocking_34 rfl (lv_at hl 1 rfl) ?_
      obtain ⟨hi5, hf⟩ := ks_guard hf
      refine ks_iald hx hb hK hW (ks_v15 (i := 0) (j := 0) (hE 15 rfl)) (ks_c15 cy ad o 0 0 _) hi5 dX5_blocking_35 ?_
      refine lv_icmp_ne (tgt := 111) hx hb dX5_blocking_36 (by decide) (fun c6 => ?_) (fun c6 => ?_)
      · rw [if_neg c6] at hf
        refine lv_iinc (v := (x3 + 1)) (lv' := [(3, .int (x3 + 1)), (0, .ref (ad 14 0 0)), (1, .int x1), (2, .int x2), (4, .int x4)]) hx hb dX5_blocking_111 hl (k := 3) rfl rfl (by decide) rfl (fun ls hl => ?_)
        refine lv_goto (tgt := 4) hx hb dX5_blocking_114 (by decide) ?_
        exact hk4 _ _ _ _ hf hW hS (lv_sub hl [1, 2, 3, 0] rfl)
      · rw [if_pos c6] at hf
        refine lv_aload_n hx hb dX5_blocking_39 rfl (lv_at hl 0 rfl) ?_
        refine va_get (D := D) (ci := 5) (v := .ref (ad 16 0 0)) (C := RX5) (T := TX5) (N := 34) hx hb hts in_X5_blocking_5 hown hK (ks_P1 hW (ks_v14 (i := 0) (j := 0) (hE 14 rfl)) (ks_c14 cy ad o 0 0 _)) 0 rfl rfl 2 (by decide) (hts (.fieldLink RX5 13 "SpinKernelModel" "priorities" "[I") (by decide +kernel)) (fun _ h => h) rfl dX5_blocking_40 ?_
        refine lv_iload_n hx hb dX5_blocking_43 rfl (lv_at hl 3 rfl) ?_
        obtain ⟨hi7, hf⟩ := ks_guard hf
        refine ks_iald hx hb hK hW (ks_v16 (i := 0) (j := 0) (hE 16 rfl)) (ks_c16 cy ad o 0 0 _) hi7 dX5_blocking_44 ?_
        refine lv_aload_n hx hb dX5_blocking_45 rfl (lv_at hl 0 rfl) ?_
        refine va_get (D := D) (ci := 5) (v := .ref (ad 16 0 0)) (C := RX5) (T := TX5) (N := 34) hx hb hts in_X5_blocking_5 hown hK (ks_P1 hW (ks_v14 (i := 0) (j := 0) (hE 14 rfl)) (ks_c14 cy ad o 0 0 _)) 0 rfl rfl 2 (by decide) (hts (.fieldLink RX5 13 "SpinKernelModel" "priorities" "[I") (by decide +kernel)) (fun _ h => h) rfl dX5_blocking_46 ?_
        refine lv_iload_n hx hb dX5_blocking_49 rfl (lv_at hl 1 rfl) ?_
        obtain ⟨hi8, hf⟩ := ks_guard hf
        refine ks_iald hx hb hK hW (ks_v16 (i := 0) (j := 0) (hE 16 rfl)) (ks_c16 cy ad o 0 0 _) hi8 dX5_blocking_50 ?_
        refine lv_icmp_ge (tgt := 111) hx hb dX5_blocking_51 (by decide) (fun c9 => ?_) (fun c9 => ?_)
        · rw [if_pos c9] at hf
          refine lv_iinc (v := (x3 + 1)) (lv' := [(3, .int (x3 + 1)), (0, .ref (ad 14 0 0)), (1, .int x1), (2, .int x2), (4, .int x4)]) hx hb dX5_blocking_111 hl (k := 3) rfl rfl (by decide) rfl (fun ls hl => ?_)
          refine lv_goto (tgt := 4) hx hb dX5_blocking_114 (by decide) ?_
          exact hk4 _ _ _ _ hf hW hS (lv_sub hl [1, 2, 3, 0] rfl)
        · rw [if_neg c9] at hf
          refine lv_aload_n hx hb dX5_blocking_54 rfl (lv_at hl 0 rfl) ?_
          refine lv_iload_n hx hb dX5_blocking_55 rfl (lv_at hl 3 rfl) ?_
          refine lv_iload hx hb dX5_blocking_56 (lv_at hl 4 rfl) ?_
          obtain ⟨⟨r12, s11⟩, hc10, hf⟩ := ks_bind hf
          try dsimp only at hf
          refine ks_calli (va_runV (As := [.int x3, .int x4]) (rest := []) ⟨hx, hb, hml, hown, hts⟩ (m_X5_isOuter l D cy ad En n0 hG hE o hc10) (cwV 2 hts gX5_blocking_X5_isOuter rfl rfl rfl (by decide +kernel) ⟨(Nat.le_of_ble_eq_true rfl), (Nat.le_of_ble_eq_true rfl)⟩) ⟨ks_U.blind, ks_recv hK hW (ks_v14 (i := 0) (j := 0) (hE 14 rfl)) (ks_c14 cy ad o 0 0 _) rfl, fun U hU hWm => ⟨rfl, hU0.now hS hW hWm.alike hU⟩⟩ rfl rfl hl.1 rfl (lv_room (Nat.le_of_ble_eq_true rfl)) dX5_blocking_58 ⟨(Nat.le_of_ble_eq_true rfl), (Nat.le_of_ble_eq_true rfl)⟩) hS (fun H locs hW hS => ?_)
          refine lv_if_eq (tgt := 89) hx hb dX5_blocking_61 (by decide) (fun c13 => ?_) (fun c13 => ?_)
          · rw [if_pos c13] at hf
            refine lv_iconst (v := 0) hx hb dX5_blocking_89 (by decide) ?_
            refine lv_istore (lv' := [(5, .int 0), (0, .ref (ad 14 0 0)), (1, .int x1), (2, .int x2), (3, .int x3), (4, .int x4)]) hx hb dX5_blocking_90 hl (by decide) rfl (fun ls hl => ?_)
            refine lv_iload hx hb dX5_blocking_92 (lv_at hl 0 rfl) ?_
            refine lv_iload_n hx hb dX5_blocking_94 rfl (lv_at hl 3 rfl) ?_
            refine lv_icmp_le (tgt := 103) hx hb dX5_blocking_95 (by decide) (fun c14 => ?_) (fun c14 => ?_)
            · rw [if_pos c14] at hf
              refine lv_iload_n hx hb dX5_blocking_103 rfl (lv_at hl 3 rfl) ?_
              refine lv_istore_n (lv' := [(2, .int x2), (5, .int 0), (0, .ref (ad 14 0 0)), (1, .int x1), (3, .int x3), (4, .int x4)]) hx hb dX5_blocking_104 rfl hl (by decide) rfl (fun ls hl => ?_)
              refine lv_iinc (v := (x4 + 1)) (lv' := [(4, .int (x4 + 1)), (2, .int x2), (5, .int 0), (0, .ref (ad 14 0 0)), (1, .int x1), (3, .int x3)]) hx hb dX5_blocking_105 hl (k := 5) rfl rfl (by decide) rfl (fun ls hl => ?_)
              refine lv_goto (tgt := 13) hx hb dX5_blocking_108 (by decide) ?_
              exact hk13 _ _ _ _ _ hf hW hS (lv_sub hl [3, 4, 1, 5, 0] rfl)
            · rw [if_neg c14] at hf
              refine lv_iload hx hb dX5_blocking_98 (lv_at hl 0 rfl) ?_
              refine lv_goto (tgt := 104) hx hb dX5_blocking_100 (by decide) ?_
              refine lv_istore_n (lv' := [(2, .int 0), (5, .int 0), (0, .ref (ad 14 0 0)), (1, .int x1), (3, .int x3), (4, .int x4)]) hx hb dX5_blocking_104 rfl hl (by decide) rfl (fun ls hl => ?_)
              refine lv_iinc (v := (x4 + 1)) (lv' := [(4, .int (x4 + 1)), (2, .int 0), (5, .int 0), (0, .ref (ad 14 0 0)), (1, .int x1), (3, .int x3)]) hx hb dX5_blocking_105 hl (k := 5) rfl rfl (by decide) rfl (fun ls hl => ?_)
              refine lv_goto (tgt := 13) hx hb dX5_blocking_108 (by decide) ?_
              exact hk13 _ _ _ _ _ hf hW hS (lv_sub hl [3, 4, 1, 5, 0] rfl)
          · rw [if_neg c13] at hf
            refine lv_aload_n hx hb dX5_blocking_64 rfl (lv_at hl 0 rfl) ?_
            refine va_get (D := D) (ci := 5) (v := .ref (ad 23 0 0)) (C := RX5) (T := TX5) (N := 34) hx hb hts in_X5_blocking_5 hown hK (ks_P1 hW (ks_v14 (i := 0) (j := 0) (hE 14 rfl)) (ks_c14 cy ad o 0 0 _)) 0 rfl rfl 9 (by decide) (hts (.fieldLink RX5 34 "SpinKernelModel" "lengths" "[I") (by decide +kernel)) (fun _ h => h) rfl dX5_blocking_65 ?_
            refine lv_bipush (v := 6) hx hb dX5_blocking_68 (by decide) ?_
            refine lv_iload_n hx hb dX5_blocking_70 rfl (lv_at hl 3 rfl) ?_
            refine lv_imul hx hb dX5_blocking_71 ?_
            refine lv_iload hx hb dX5_blocking_72 (lv_at hl 4 rfl) ?_
            refine lv_iadd hx hb dX5_blocking_74 ?_
            obtain ⟨hi15, hf⟩ := ks_guard hf
            refine ks_iald hx hb hK hW (ks_v23 (i := 0) (j := 0) (hE 23 rfl)) (ks_c23 cy ad o 0 0 _) hi15 dX5_blocking_75 ?_
            refine lv_aload_n hx hb dX5_blocking_76 rfl (lv_at hl 0 rfl) ?_
            refine lv_iload_n hx hb dX5_blocking_77 rfl (lv_at hl 3 rfl) ?_
            refine lv_iload hx hb dX5_blocking_78 (lv_at hl 4 rfl) ?_
            obtain ⟨⟨r18, s17⟩, hc16, hf⟩ := ks_bind hf
            try dsimp only at hf
            refine ks_calli (va_runV (As := [.int x3, .int x4]) (rest := [.int (s11 23 0 0 ((((6 * x3)) + x4)).toNatClampNeg)]) ⟨hx, hb, hml, hown, hts⟩ (m_X5_spinOf l D cy ad En n0 hG hE o hc16) (cwV 2 hts gX5_blocking_X5_spinOf rfl rfl rfl (by decide +kernel) ⟨(Nat.le_of_ble_eq_true rfl), (Nat.le_of_ble_eq_true rfl)⟩) ⟨ks_U.blind, ks_recv hK hW (ks_v14 (i := 0) (j := 0) (hE 14 rfl)) (ks_c14 cy ad o 0 0 _) rfl, fun U hU hWm => ⟨rfl, hU0.now hS hW hWm.alike hU⟩⟩ rfl rfl hl.1 rfl (lv_room (Nat.le_of_ble_eq_true rfl)) dX5_blocking_80 ⟨(Nat.le_of_ble_eq_true rfl), (Nat.le_of_ble_eq_true rfl)⟩) hS (fun H locs hW hS => ?_)
            refine lv_iadd hx hb dX5_blocking_83 ?_
            refine lv_iconst (v := 1) hx hb dX5_blocking_84 (by decide) ?_
            refine lv_isub hx hb dX5_blocking_85 ?_
            refine lv_goto (tgt := 90) hx hb dX5_blocking_86 (by decide) ?_
            refine lv_istore (lv' := [(5, .int (((((s11 23 0 0 ((((6 * x3)) + x4)).toNatClampNeg)) + r18)) - 1)), (0, .ref (ad 14 0 0)), (1, .int x1), (2, .int x2), (3, .int x3), (4, .int x4)]) hx hb dX5_blocking_90 hl (by decide) rfl (fun ls hl => ?_)
            refine lv_iload hx hb dX5_blocking_92 (lv_at hl 0 rfl) ?_
            refine lv_iload_n hx hb dX5_blocking_94 rfl (lv_at hl 3 rfl) ?_
            refine lv_icmp_le (tgt := 103) hx hb dX5_blocking_95 (by decide) (fun c19 => ?_) (fun c19 => ?_)
            · rw [if_pos c19] at hf
              refine lv_iload_n hx hb dX5_blocking_103 rfl (lv_at hl 3 rfl) ?_
              refine lv_istore_n (lv' := [(2, .int x2), (5, .int (((((s11 23 0 0 ((((6 * x3)) + x4)).toNatClampNeg)) + r18)) - 1)), (0, .ref (ad 14 0 0)), (1, .int x1), (3, .int x3), (4, .int x4)]) hx hb dX5_blocking_104 rfl hl (by decide) rfl (fun ls hl => ?_)
              refine lv_iinc (v := (x4 + 1)) (lv' := [(4, .int (x4 + 1)), (2, .int x2), (5, .int (((((s11 23 0 0 ((((6 * x3)) + x4)).toNatClampNeg)) + r18)) - 1)), (0, .ref (ad 14 0 0)), (1, .int x1), (3, .int x3)]) hx hb dX5_blocking_105 hl (k := 5) rfl rfl (by decide) rfl (fun ls hl => ?_)
              refine lv_goto (tgt := 13) hx hb dX5_blocking_108 (by decide) ?_
              exact hk13 _ _ _ _ _ hf hW hS (lv_sub hl [3, 4, 1, 5, 0] rfl)
            · rw [if_neg c19] at hf
              refine lv_iload hx hb dX5_blocking_98 (lv_at hl 0 rfl) ?_
              refine lv_goto (tgt := 104) hx hb dX5_blocking_100 (by decide) ?_
              refine lv_istore_n (lv' := [(2, .int (((((s11 23 0 0 ((((6 * x3)) + x4)).toNatClampNeg)) + r18)) - 1)), (5, .int (((((s11 23 0 0 ((((6 * x3)) + x4)).toNatClampNeg)) + r18)) - 1)), (0, .ref (ad 14 0 0)), (1, .int x1), (3, .int x3), (4, .int x4)]) hx hb dX5_blocking_104 rfl hl (by decide) rfl (fun ls hl => ?_)
              refine lv_iinc (v := (x4 + 1)) (lv' := [(4, .int (x4 + 1)), (2, .int (((((s11 23 0 0 ((((6 * x3)) + x4)).toNatClampNeg)) + r18)) - 1)), (5, .int (((((s11 23 0 0 ((((6 * x3)) + x4)).toNatClampNeg)) + r18)) - 1)), (0, .ref (ad 14 0 0)), (1, .int x1), (3, .int x3)]) hx hb dX5_blocking_105 hl (k := 5) rfl rfl (by decide) rfl (fun ls hl => ?_)
              refine lv_goto (tgt := 13) hx hb dX5_blocking_108 (by decide) ?_
              exact hk13 _ _ _ _ _ hf hW hS (lv_sub hl [3, 4, 1, 5, 0] rfl)
set_option maxHeartbeats 4000000 in
set_option maxRecDepth 100000 in
theorem t_X5_blocking_4 {p : Program} {l : Launch} {e : Env} {s : State} {m : MethodId} {args : Array Value} {below : List Frame} {meth : Method} {c : Code} {D : va_G} {cy : Nat → ClassId} {ad : ks_A} {En : Nat → Prop} {n0 : Nat → Prop} {σ0 : ks_S} {o : Int64} {N : Nat} {out : (Int32 × ks_S)} (C : ks_M p s m args meth c D cy ad En (fun k => ks_g k = 1) n0 σ0 o wsX5_blocking cX5_blocking RX5 6 (some .int)) : ∀ (n : Nat) (σ : ks_S) (x1 : Int32) (x2 : Int32) (x3 : Int32), f_X5_blocking_4 N n σ x1 x2 x3 = some out → ∀ {H : Heap} {locs : List Loc} {ls : Array Slot}, ks_W D cy ad En σ o H → va_S (ks_F n0) s.heap H locs → lv_has ls 6 [(0, .ref (ad 14 0 0)), (1, .int x1), (2, .int x2), (3, .int x3)] → W p l e (ks_Rm 2 0 0 50) s m args below meth c H locs 0 0 (MQ below (ks_Qi D cy ad En n0 o out) args s 0 0 (ks_F n0)) (F0 m 4 ls []) := by
  obtain ⟨hx, hb, hml, hr, hown, hts, hlocks, hG, hU0, hE⟩ := id C
  have hK := hU0.2.2
  intro n
  induction n with
  | zero => intro σ x1 x2 x3; intro  hf; exact absurd hf (by simp [f_X5_blocking_4])
  | succ n hk4 =>
    intro σ x1 x2 x3  hf H locs ls hW hS hl
    rw [f_X5_blocking_4] at hf
    refine lv_iload_n hx hb dX5_blocking_4 rfl (lv_at hl 3 rfl) ?_
    refine lv_bipush (v := 16) hx hb dX5_blocking_5 (by decide) ?_
    refine lv_icmp_ge (tgt := 117) hx hb dX5_blocking_7 (by decide) (fun c1 => ?_) (fun c1 => ?_)
    · rw [if_pos c1] at hf
      refine lv_iload_n hx hb dX5_blocking_117 rfl (lv_at hl 2 rfl) ?_
      exact ks_iret C hf hW hS dX5_blocking_118
    · rw [if_neg c1] at hf
      refine lv_iconst (v := 0) hx hb dX5_blocking_10 (by decide) ?_
      refine lv_istore (lv' := [(4, .int 0), (0, .ref (ad 14 0 0)), (1, .int x1), (2, .int x2), (3, .int x3)]) hx hb dX5_blocking_11 hl (by decide) rfl (fun ls hl => ?_)
      exact t_X5_blocking_13 C hk4 _ _ _ _ _ _  hf hW hS (lv_sub hl [1, 2, 3, 4, 0] rfl)
set_option maxHeartbeats 4000000 in
set_option maxRecDepth 100000 in
theorem t_X5_blocking {p : Program} {l : Launch} {e : Env} {s : State} {m : MethodId} {args : Array Value} {below : List Frame} {meth : Method} {c : Code} {D : va_G} {cy : Nat → ClassId} {ad : ks_A} {En : Nat → Prop} {n0 : Nat → Prop} {σ0 : ks_S} {o : Int64} {N : Nat} {out : (Int32 × ks_S)} (C : ks_M p s m args meth c D cy ad En (fun k => ks_g k = 1) n0 σ0 o wsX5_blocking cX5_blocking RX5 6 (some .int)) {σ : ks_S} {x1 : Int32}  (hf : f_X5_blocking N σ x1 = some out) {H : Heap} {locs : List Loc} {ls : Array Slot} (hW : ks_W D cy ad En σ o H) (hS : va_S (ks_F n0) s.heap H locs) (hl : lv_has ls 6 [(0, .ref (ad 14 0 0)), (1, .int x1)]) : W p l e (ks_Rm 2 0 0 50) s m args below meth c H locs 0 0 (MQ below (ks_Qi D cy ad En n0 o out) args s 0 0 (ks_F n0)) (F0 m 0 ls []) := by
  obtain ⟨hx, hb, hml, hr, hown, hts, hlocks, hG, hU0, hE⟩ := id C
  have hK := hU0.2.2
  unfold f_X5_blocking at hf
  refine lv_iconst (v := 0) hx hb dX5_blocking_0 (by decide) ?_
  refine lv_istore_n (lv' := [(2, .int 0), (0, .ref (ad 14 0 0)), (1, .int x1)]) hx hb dX5_blocking_1 rfl hl (by decide) rfl (fun ls hl => ?_)
  refine lv_iconst (v := 0) hx hb dX5_blocking_2 (by decide) ?_
  refine lv_istore_n (lv' := [(3, .int 0), (2, .int 0), (0, .ref (ad 14 0 0)), (1, .int x1)]) hx hb dX5_blocking_3 rfl hl (by decide) rfl (fun ls hl => ?_)
  exact t_X5_blocking_4 C _ _ _ _ _  hf hW hS (lv_sub hl [2, 3, 1, 0] rfl)
set_option maxHeartbeats 4000000 in
set_option maxRecDepth 100000 in
theorem m_X5_blocking (l : Launch) (D : va_G) (cy : Nat → ClassId) (ad : ks_A) (En : Nat → Prop) (n0 : Nat → Prop) (hG : ks_G ad En n0) (hE : ∀ k, ks_g k = 1 → En k) (o : Int64) {N : Nat} {σ : ks_S} {x1 : Int32}  {out : (Int32 × ks_S)} (hf : f_X5_blocking N σ x1 = some out) : Met l yX5_blocking wsX5_blocking (ks_Rm 2 0 0 50) (va_Pc [.ref (ad 14 0 0), .int x1] (ks_U D cy ad En n0 σ o)) (ks_Qi D cy ad En n0 o out) 0 0 (ks_F n0) := by
  refine Met.ofW (cc := cX5_blocking) (maxL := 6) (ret := some .int) (by decide) rfl ?_
  intro p e s m args below meth c s₁ B hml hv
  obtain ⟨rfl, hU⟩ := hv
  have hl := lv_entry ([.ref (ad 14 0 0), .int x1]) (n := 6) (Nat.le_of_ble_eq_true rfl)
  rw [lg_entry_eq]
  generalize (lg_sl ([.ref (ad 14 0 0), .int x1]) ++ List.replicate (6 - (lg_sl ([.ref (ad 14 0 0), .int x1])).length) Slot.unset).toArray = ls at hl ⊢
  exact t_X5_blocking ⟨B.exec, B.bytes, hml, B.returns, findClass_of_methodNamed B.named, atoms_spec (ws := wsX5_blocking) B.pre, B.notSynchronized, hG, hU, hE⟩  hf hU.2.1 va_S.rf hl

/-! SpinKernelModel.responseOf(I)I -/
def f_X5_responseOf_38 (N : Nat) (k17 : ks_S → Int32 → Int32 → Int32 → Int32 → Option (Int32 × ks_S)) : Nat → ks_S → Int32 → Int32 → Int32 → Int32 → Int32 → Option (Int32 × ks_S)
  | 0, _, _, _, _, _, _ => none
  | n + 1, σ, x1, x2, x3, x5, x6 => (if 16 ≤ x6 then (if x5 ≤ x3 then k17 σ x1 x2 x5 0 else k17 σ x1 x2 x5 1) else (if x6 = x1 then f_X5_responseOf_38 N k17 n σ x1 x2 x3 x5 ((x6 + 1)) else (if ks_in x6 16 = true then (if ks_in x1 16 = true then (if ((σ 15 0 0 x6.toNatClampNeg)) = ((σ 15 0 0 x1.toNatClampNeg)) then (if ks_in x6 16 = true then (if ks_in x1 16 = true then (if ((σ 16 0 0 x6.toNatClampNeg)) ≤ ((σ 16 0 0 x1.toNatClampNeg)) then f_X5_responseOf_38 N k17 n σ x1 x2 x3 x5 ((x6 + 1)) else (if ks_in x6 16 = true then (if ks_in x6 16 = true then (if ¬ ((σ 17 0 0 x6.toNatClampNeg)) = 0 then ((f_X5_inflated N σ x6).bind fun (r28, s27) => f_X5_responseOf_38 N k17 n s27 x1 x2 x3 ((x5 + ((((((((x3 + ((σ 17 0 0 x6.toNatClampNeg)))) - 1)) / ((σ 17 0 0 x6.toNatClampNeg)))) * r28)))) ((x6 + 1))) else none) else none) else none)) else none) else none) else f_X5_responseOf_38 N k17 n σ x1 x2 x3 x5 ((x6 + 1))) else none) else none)))
def f_X5_responseOf_17 (N : Nat) : Nat → ks_S → Int32 → Int32 → Int32 → Int32 → Option (Int32 × ks_S)
  | 0, _, _, _, _, _ => none
  | n + 1, σ, x1, x2, x3, x4 => (if x4 = 0 then (if ks_in x1 16 = true then (if ((σ 18 0 0 x1.toNatClampNeg)) < x3 then some ((-1), σ) else some (x3, σ)) else none) else (if ks_in x1 16 = true then (if ((σ 18 0 0 x1.toNatClampNeg)) < x3 then (if ks_in x1 16 = true then (if ((σ 18 0 0 x1.toNatClampNeg)) < x3 then some ((-1), σ) else some (x3, σ)) else none) else f_X5_responseOf_38 N (f_X5_responseOf_17 N n) N σ x1 x2 x3 x2 0) else none))
def f_X5_responseOf (N : Nat) (σ : ks_S) (x1 : Int32) : Option (Int32 × ks_S) :=
  ((f_X5_inflated N σ x1).bind fun (r3, s2) => ((f_X5_blocking N s2 x1).bind fun (r6, s5) => f_X5_responseOf_17 N N s5 x1 ((r3 + r6)) ((r3 + r6)) 1))
theorem in_X5_responseOf_5 : ∀ w ∈ wsX50, w ∈ wsX5_responseOf := by decide +kernel
set_option maxHeartbeats 4000000 in
set_option maxRecDepth 100000 in
theorem t_X5_responseOf_38 {p : Program} {l : Launch} {e : Env} {s : State} {m : MethodId} {args : Array Value} {below : List Frame} {meth : Method} {c : Code} {D : va_G} {cy : Nat → ClassId} {ad : ks_A} {En : Nat → Prop} {n0 : Nat → Prop} {σ0 : ks_S} {o : Int64} {N : Nat} {out : (Int32 × ks_S)} (C : ks_M p s m args meth c D cy ad En (fun k => ks_g k = 1) n0 σ0 o wsX5_responseOf cX5_responseOf RX5 7 (some .int)) {k17 : ks_S → Int32 → Int32 → Int32 → Int32 → Option (Int32 × ks_S)} (hk17 : ∀ (σ : ks_S) (x1 : Int32) (x2 : Int32) (x3 : Int32) (x4 : Int32), k17 σ x1 x2 x3 x4 = some out → ∀ {H : Heap} {locs : List Loc} {ls : Array Slot}, ks_W D cy ad En σ o H → va_S (ks_F n0) s.heap H locs → lv_has ls 7 [(0, .ref (ad 14 0 0)), (1, .int x1), (2, .int x2), (3, .int x3), (4, .int x4)] → W p l e (ks_Rm 3 0 0 75) s m args below meth c H locs 0 0 (MQ below (ks_Qi D cy ad En n0 o out) args s 0 0 (ks_F n0)) (F0 m 17 ls [])) : ∀ (n : Nat) (σ : ks_S) (x1 : Int32) (x2 : Int32) (x3 : Int32) (x5 : Int32) (x6 : Int32), f_X5_responseOf_38 N k17 n σ x1 x2 x3 x5 x6 = some out → ∀ {H : Heap} {locs : List Loc} {ls : Array Slot}, ks_W D cy ad En σ o H → va_S (ks_F n0) s.heap H locs → lv_has ls 7 [(0, .ref (ad 14 0 0)), (1, .int x1), (2, .int x2), (3, .int x3), (5, .int x5), (6, .int x6)] → W p l e (ks_Rm 3 0 0 75) s m args below meth c H locs 0 0 (MQ below (ks_Qi D cy ad En n0 o out) args s 0 0 (ks_F n0)) (F0 m 38 ls []) := by
  obtain ⟨hx, hb, hml, hr, hown, hts, hlocks, hG, hU0, hE⟩ := id C
  have hK := hU0.2.2
  intro n
  induction n with
  | zero => intro σ x1 x2 x3 x5 x6; intro  hf; exact absurd hf (by simp [f_X5_responseOf_38])
  | succ n hk38 =>
    intro σ x1 x2 x3 x5 x6  hf H locs ls hW hS hl
    rw [f_X5_responseOf_38] at hf
    refine lv_iload hx hb dX5_responseOf_38 (lv_at hl 5 rfl) ?_
    refine lv_bipush (v := 16) hx hb dX5_responseOf_40 (by decide) ?_
    refine lv_icmp_ge (tgt := 120) hx hb dX5_responseOf_42 (by decide) (fun c14 => ?_) (fun c14 => ?_)
    · rw [if_pos c14] at hf
      refine lv_iload hx hb dX5_responseOf_120 (lv_at hl 4 rfl) ?_
      refine lv_iload_n hx hb dX5_responseOf_122 rfl (lv_at hl 3 rfl) ?_
      refine lv_icmp_le (tgt := 130) hx hb dX5_responseOf_123 (by decide) (fun c15 => ?_) (fun c15 => ?_)
      · rw [if_pos c15] at hf
        refine lv_iconst (v := 0) hx hb dX5_responseOf_130 (by decide) ?_
        refine lv_istore (lv' := [(4, .int 0), (0, .ref (ad 14 0 0)), (1, .int x1), (2, .int x2), (3, .int x3), (5, .int x5), (6, .int x6)]) hx hb dX5_responseOf_131 hl (by decide) rfl (fun ls hl => ?_)
        refine lv_iload hx hb dX5_responseOf_133 (lv_at hl 5 rfl) ?_
        refine lv_istore_n (lv' := [(3, .int x5), (4, .int 0), (0, .ref (ad 14 0 0)), (1, .int x1), (2, .int x2), (5, .int x5), (6, .int x6)]) hx hb dX5_responseOf_135 rfl hl (by decide) rfl (fun ls hl => ?_)
        refine lv_goto (tgt := 17) hx hb dX5_responseOf_136 (by decide) ?_
        exact hk17 _ _ _ _ _ hf hW hS (lv_sub hl [2, 3, 4, 0, 1] rfl)
      · rw [if_neg c15] at hf
        refine lv_iconst (v := 1) hx hb dX5_responseOf_126 (by decide) ?_
        refine lv_goto (tgt := 131) hx hb dX5_responseOf_127 (by decide) ?_
        refine lv_istore (lv' := [(4, .int 1), (0, .ref (ad 14 0 0)), (1, .int x1), (2, .int x2), (3, .int x3), (5, .int x5), (6, .int x6)]) hx hb dX5_responseOf_131 hl (by decide) rfl (fun ls hl => ?_)
        refine lv_iload hx hb dX5_responseOf_133 (lv_at hl 5 rfl) ?_
        refine lv_istore_n (lv' := [(3, .int x5), (4, .int 1), (0, .ref (ad 14 0 0)), (1, .int x1), (2, .int x2), (5, .int x5), (6, .int x6)]) hx hb dX5_responseOf_135 rfl hl (by decide) rfl (fun ls hl => ?_)
        refine lv_goto (tgt := 17) hx hb dX5_responseOf_136 (by decide) ?_
        exact hk17 _ _ _ _ _ hf hW hS (lv_sub hl [2, 3, 4, 0, 1] rfl)
    · rw [if_neg c14] at hf
      refine lv_iload hx hb dX5_responseOf_45 (lv_at hl 5 rfl) ?_
      refine lv_iload_n hx hb dX5_responseOf_47 rfl (lv_at hl 1 rfl) ?_
      refine lv_icmp_eq (tgt := 114) hx hb dX5_responseOf_48 (by decide) (fun c16 => ?_) (fun c16 => ?_)
      · rw [if_pos c16] at hf
        refine lv_iinc (v := (x6 + 1)) (lv' := [(6, .int (x6 + 1)), (0, .ref (ad 14 0 0)), (1, .int x1), (2, .int x2), (3, .int x3), (5, .int x5)]) hx hb dX5_responseOf_114 hl (k := 5) rfl rfl (by decide) rfl (fun ls hl => ?_)
        refine lv_goto (tgt := 38) hx hb dX5_responseOf_117 (by decide) ?_
        exact hk38 _ _ _ _ _ _ hf hW hS (lv_sub hl [1, 2, 3, 4, 5, 0] rfl)
      · rw [if_neg c16] at hf
        refine lv_aload_n hx hb dX5_responseOf_51 rfl (lv_at hl 0 rfl) ?_
        refine va_get (D := D) (ci := 5) (v := .ref (ad 15 0 0)) (C := RX5) (T := TX5) (N := 34) hx hb hts in_X5_responseOf_5 hown hK (ks_P1 hW (ks_v14 (i := 0) (j := 0) (hE 14 rfl)) (ks_c14 cy ad o 0 0 _)) 0 rfl rfl 1 (by decide) (hts (.fieldLink RX5 7 "SpinKernelModel" "cores" "[I") (by decide +kernel)) (fun _ h => h) rfl dX5_responseOf_52 ?_
        refine lv_iload hx hb dX5_responseOf_55 (lv_at hl 5 rfl) ?_
        obtain ⟨hi17, hf⟩ := ks_guard hf
        refine ks_iald hx hb hK hW (ks_v15 (i := 0) (j := 0) (hE 15 rfl)) (ks_c15 cy ad o 0 0 _) hi17 dX5_responseOf_57 ?_
        refine lv_aload_n hx hb dX5_responseOf_58 rfl (lv_at hl 0 rfl) ?_
        refine va_get (D := D) (ci := 5) (v := .ref (ad 15 0 0)) (C := RX5) (T := TX5) (N := 34) hx hb hts in_X5_responseOf_5 hown hK (ks_P1 hW (ks_v14 (i := 0) (j := 0) (hE 14 rfl)) (ks_c14 cy ad o 0 0 _)) 0 rfl rfl 1 (by decide) (hts (.fieldLink RX5 7 "SpinKernelModel" "cores" "[I") (by decide +kernel)) (fun _ h => h) rfl dX5_responseOf_59 ?_
        refine lv_iload_n hx hb dX5_responseOf_62 rfl (lv_at hl 1 rfl) ?_
        obtain ⟨hi18, hf⟩ := ks_guard hf
        refine ks_iald hx hb hK hW (ks_v15 (i := 0) (j := 0) (hE 15 rfl)) (ks_c15 cy ad o 0 0 _) hi18 dX5_responseOf_63 ?_
        refine lv_icmp_ne (tgt := 114) hx hb dX5_responseOf_64 (by decide) (fun c19 => ?_) (fun c19 => ?_)
        · rw [if_neg c19] at hf
          refine lv_iinc (v := (x6 + 1)) (lv' := [(6, .int (x6 + 1)), (0, .ref (ad 14 0 0)), (1, .int x1), (2, .int x2), (3, .int x3), (5, .int x5)]) hx hb dX5_responseOf_114 hl (k := 5) rfl rfl (by decide) rfl (fun ls hl => ?_)
          refine lv_goto (tgt := 38) hx hb dX5_responseOf_117 (by decide) ?_
          exact hk38 _ _ _ _ _ _ hf hW hS (lv_sub hl [1, 2, 3, 4, 5, 0] rfl)
        · rw [if_pos c19] at hf
          refine lv_aload_n hx hb dX5_responseOf_67 rfl (lv_at hl 0 rfl) ?_
          refine va_get (D := D) (ci := 5) (v := .ref (ad 16 0 0)) (C := RX5) (T := TX5) (N := 34) hx hb hts in_X5_responseOf_5 hown hK (ks_P1 hW (ks_v14 (i := 0) (j := 0) (hE 14 rfl)) (ks_c14 cy ad o 0 0 _)) 0 rfl rfl 2 (by decide) (hts (.fieldLink RX5 13 "SpinKernelModel" "priorities" "[I") (by decide +kernel)) (fun _ h => h) rfl dX5_responseOf_68 ?_
          refine lv_iload hx hb dX5_responseOf_71 (lv_at hl 5 rfl) ?_
          obtain ⟨hi20, hf⟩ := ks_guard hf
          refine ks_iald hx hb hK hW (ks_v16 (i := 0) (j := 0) (hE 16 rfl)) (ks_c16 cy ad o 0 0 _) hi20 dX5_responseOf_73 ?_
          refine lv_aload_n hx hb dX5_responseOf_74 rfl (lv_at hl 0 rfl) ?_
          refine va_get (D := D) (ci := 5) (v := .ref (ad 16 0 0)) (C := RX5) (T := TX5) (N := 34) hx hb hts in_X5_responseOf_5 hown hK (ks_P1 hW (ks_v14 (i := 0) (j := 0) (hE 14 rfl)) (ks_c14 cy ad o 0 0 _)) 0 rfl rfl 2 (by decide) (hts (.fieldLink RX5 13 "SpinKernelModel" "priorities" "[I") (by decide +kernel)) (fun _ h => h) rfl dX5_responseOf_75 ?_
          refine lv_iload_n hx hb dX5_responseOf_78 rfl (lv_at hl 1 rfl) ?_
          obtain ⟨hi21, hf⟩ := ks_guard hf
          refine ks_iald hx hb hK hW (ks_v16 (i := 0) (j := 0) (hE 16 rfl)) (ks_c16 cy ad o 0 0 _) hi21 dX5_responseOf_79 ?_
          refine lv_icmp_le (tgt := 114) hx hb dX5_responseOf_80 (by decide) (fun c22 => ?_) (fun c22 => ?_)
          · rw [if_pos c22] at hf
            refine lv_iinc (v := (x6 + 1)) (lv' := [(6, .int (x6 + 1)), (0, .ref (ad 14 0 0)), (1, .int x1), (2, .int x2), (3, .int x3), (5, .int x5)]) hx hb dX5_responseOf_114 hl (k := 5) rfl rfl (by decide) rfl (fun ls hl => ?_)
            refine lv_goto (tgt := 38) hx hb dX5_responseOf_117 (by decide) ?_
            exact hk38 _ _ _ _ _ _ hf hW hS (lv_sub hl [1, 2, 3, 4, 5, 0] rfl)
          · rw [if_neg c22] at hf
            refine lv_iload hx hb dX5_responseOf_83 (lv_at hl 4 rfl) ?_
            refine lv_iload_n hx hb dX5_responseOf_85 rfl (lv_at hl 3 rfl) ?_
            refine lv_aload_n hx hb dX5_responseOf_86 rfl (lv_at hl 0 rfl) ?_
            refine va_get (D := D) (ci := 5) (v := .ref (ad 17 0 0)) (C := RX5) (T := TX5) (N := 34) hx hb hts in_X5_responseOf_5 hown hK (ks_P1 hW (ks_v14 (i := 0) (j := 0) (hE 14 rfl)) (ks_c14 cy ad o 0 0 _)) 0 rfl rfl 3 (by decide) (hts (.fieldLink RX5 16 "SpinKernelModel" "distances" "[I") (by decide +kernel)) (fun _ h => h) rfl dX5_responseOf_87 ?_
            refine lv_iload hx hb dX5_responseOf_90 (lv_at hl 5 rfl) ?_
            obtain ⟨hi23, hf⟩ := ks_guard hf
            refine ks_iald hx hb hK hW (ks_v17 (i := 0) (j := 0) (hE 17 rfl)) (ks_c17 cy ad o 0 0 _) hi23 dX5_responseOf_92 ?_
            refine lv_iadd hx hb dX5_responseOf_93 ?_
            refine lv_iconst (v := 1) hx hb dX5_responseOf_94 (by decide) ?_
            refine lv_isub hx hb dX5_responseOf_95 ?_
            refine lv_aload_n hx hb dX5_responseOf_96 rfl (lv_at hl 0 rfl) ?_
            refine va_get (D := D) (ci := 5) (v := .ref (ad 17 0 0)) (C := RX5) (T := TX5) (N := 34) hx hb hts in_X5_responseOf_5 hown hK (ks_P1 hW (ks_v14 (i := 0) (j := 0) (hE 14 rfl)) (ks_c14 cy ad o 0 0 _)) 0 rfl rfl 3 (by decide) (hts (.fieldLink RX5 16 "SpinKernelModel" "distances" "[I") (by decide +kernel)) (fun _ h => h) rfl dX5_responseOf_97 ?_
            refine lv_iload hx hb dX5_responseOf_100 (lv_at hl 5 rfl) ?_
            obtain ⟨hi24, hf⟩ := ks_guard hf
            refine ks_iald hx hb hK hW (ks_v17 (i := 0) (j := 0) (hE 17 rfl)) (ks_c17 cy ad o 0 0 _) hi24 dX5_responseOf_102 ?_
            obtain ⟨hq25, hf⟩ := ks_guard hf
            refine lv_idiv hx hb dX5_responseOf_103 hq25 ?_
            refine lv_aload_n hx hb dX5_responseOf_104 rfl (lv_at hl 0 rfl) ?_
            refine lv_iload hx hb dX5_responseOf_105 (lv_at hl 5 rfl) ?_
            obtain ⟨⟨r28, s27⟩, hc26, hf⟩ := ks_bind hf
            try dsimp only at hf
            refine ks_calli (va_runV (As := [.int x6]) (rest := [.int (((((x3 + ((σ 17 0 0 x6.toNatClampNeg)))) - 1)) / ((σ 17 0 0 x6.toNatClampNeg))), .int x5]) ⟨hx, hb, hml, hown, hts⟩ (m_X5_inflated l D cy ad En n0 hG hE o hc26) (cwV 1 hts gX5_responseOf_X5_inflated rfl rfl rfl (by decide +kernel) ⟨(Nat.le_of_ble_eq_true rfl), (Nat.le_of_ble_eq_true rfl)⟩) ⟨ks_U.blind, ks_recv hK hW (ks_v14 (i := 0) (j := 0) (hE 14 rfl)) (ks_c14 cy ad o 0 0 _) rfl, fun U hU hWm => ⟨rfl, hU0.now hS hW hWm.alike hU⟩⟩ rfl rfl hl.1 rfl (lv_room (Nat.le_of_ble_eq_true rfl)) dX5_responseOf_107 ⟨(Nat.le_of_ble_eq_true rfl), (Nat.le_of_ble_eq_true rfl)⟩) hS (fun H locs hW hS => ?_)
            refine lv_imul hx hb dX5_responseOf_110 ?_
            refine lv_iadd hx hb dX5_responseOf_111 ?_
            refine lv_istore (lv' := [(5, .int (x5 + ((((((((x3 + ((σ 17 0 0 x6.toNatClampNeg)))) - 1)) / ((σ 17 0 0 x6.toNatClampNeg)))) * r28)))), (0, .ref (ad 14 0 0)), (1, .int x1), (2, .int x2), (3, .int x3), (6, .int x6)]) hx hb dX5_responseOf_112 hl (by decide) rfl (fun ls hl => ?_)
            refine lv_iinc (v := (x6 + 1)) (lv' := [(6, .int (x6 + 1)), (5, .int (x5 + ((((((((x3 + ((σ 17 0 0 x6.toNatClampNeg)))) - 1)) / ((σ 17 0 0 x6.toNatClampNeg)))) * r28)))), (0, .ref (ad 14 0 0)), (1, .int x1), (2, .int x2), (3, .int x3)]) hx hb dX5_responseOf_114 hl (k := 5) rfl rfl (by decide) rfl (fun ls hl => ?_)
            refine lv_goto (tgt := 38) hx hb dX5_responseOf_117 (by decide) ?_
            exact hk38 _ _ _ _ _ _ hf hW hS (lv_sub hl [2, 3, 4, 5, 1, 0] rfl)
set_option maxHeartbeats 4000000 in
set_option maxRecDepth 100000 in
theorem t_X5_responseOf_17 {p : Program} {l : Launch} {e : Env} {s : State} {m : MethodId} {args : Array Value} {below : List Frame} {meth : Method} {c : Code} {D : va_G} {cy : Nat → ClassId} {ad : ks_A} {En : Nat → Prop} {n0 : Nat → Prop} {σ0 : ks_S} {o : Int64} {N : Nat} {out : (Int32 × ks_S)} (C : ks_M p s m args meth c D cy ad En (fun k => ks_g k = 1) n0 σ0 o wsX5_responseOf cX5_responseOf RX5 7 (some .int)) : ∀ (n : Nat) (σ : ks_S) (x1 : Int32) (x2 : Int32) (x3 : Int32) (x4 : Int32), f_X5_responseOf_17 N n σ x1 x2 x3 x4 = some out → ∀ {H : Heap} {locs : List Loc} {ls : Array Slot}, ks_W D cy ad En σ o H → va_S (ks_F n0) s.heap H locs → lv_has ls 7 [(0, .ref (ad 14 0 0)), (1, .int x1), (2, .int x2), (3, .int x3), (4, .int x4)] → W p l e (ks_Rm 3 0 0 75) s m args below meth c H locs 0 0 (MQ below (ks_Qi D cy ad En n0 o out) args s 0 0 (ks_F n0)) (F0 m 17 ls []) := by
  obtain ⟨hx, hb, hml, hr, hown, hts, hlocks, hG, hU0, hE⟩ := id C
  have hK := hU0.2.2
  intro n
  induction n with
  | zero => intro σ x1 x2 x3 x4; intro  hf; exact absurd hf (by simp [f_X5_responseOf_17])
  | succ n hk17 =>
    intro σ x1 x2 x3 x4  hf H locs ls hW hS hl
    rw [f_X5_responseOf_17] at hf
    refine lv_iload hx hb dX5_responseOf_17 (lv_at hl 4 rfl) ?_
    refine lv_if_eq (tgt := 139) hx hb dX5_responseOf_19 (by decide) (fun c7 => ?_) (fun c7 => ?_)
    · rw [if_pos c7] at hf
      refine lv_iload_n hx hb dX5_responseOf_139 rfl (lv_at hl 3 rfl) ?_
      refine lv_aload_n hx hb dX5_responseOf_140 rfl (lv_at hl 0 rfl) ?_
      refine va_get (D := D) (ci := 5) (v := .ref (ad 18 0 0)) (C := RX5) (T := TX5) (N := 34) hx hb hts in_X5_responseOf_5 hown hK (ks_P1 hW (ks_v14 (i := 0) (j := 0) (hE 14 rfl)) (ks_c14 cy ad o 0 0 _)) 0 rfl rfl 4 (by decide) (hts (.fieldLink RX5 19 "SpinKernelModel" "deadlines" "[I") (by decide +kernel)) (fun _ h => h) rfl dX5_responseOf_141 ?_
      refine lv_iload_n hx hb dX5_responseOf_144 rfl (lv_at hl 1 rfl) ?_
      obtain ⟨hi8, hf⟩ := ks_guard hf
      refine ks_iald hx hb hK hW (ks_v18 (i := 0) (j := 0) (hE 18 rfl)) (ks_c18 cy ad o 0 0 _) hi8 dX5_responseOf_145 ?_
      refine lv_icmp_gt (tgt := 153) hx hb dX5_responseOf_146 (by decide) (fun c9 => ?_) (fun c9 => ?_)
      · rw [if_pos c9] at hf
        refine lv_iconst (v := (-1)) hx hb dX5_responseOf_153 (by decide) ?_
        exact ks_iret C hf hW hS dX5_responseOf_154
      · rw [if_neg c9] at hf
        refine lv_iload_n hx hb dX5_responseOf_149 rfl (lv_at hl 3 rfl) ?_
        refine lv_goto (tgt := 154) hx hb dX5_responseOf_150 (by decide) ?_
        exact ks_iret C hf hW hS dX5_responseOf_154
    · rw [if_neg c7] at hf
      refine lv_iload_n hx hb dX5_responseOf_22 rfl (lv_at hl 3 rfl) ?_
      refine lv_aload_n hx hb dX5_responseOf_23 rfl (lv_at hl 0 rfl) ?_
      refine va_get (D := D) (ci := 5) (v := .ref (ad 18 0 0)) (C := RX5) (T := TX5) (N := 34) hx hb hts in_X5_responseOf_5 hown hK (ks_P1 hW (ks_v14 (i := 0) (j := 0) (hE 14 rfl)) (ks_c14 cy ad o 0 0 _)) 0 rfl rfl 4 (by decide) (hts (.fieldLink RX5 19 "SpinKernelModel" "deadlines" "[I") (by decide +kernel)) (fun _ h => h) rfl dX5_responseOf_24 ?_
      refine lv_iload_n hx hb dX5_responseOf_27 rfl (lv_at hl 1 rfl) ?_
      obtain ⟨hi10, hf⟩ := ks_guard hf
      refine ks_iald hx hb hK hW (ks_v18 (i := 0) (j := 0) (hE 18 rfl)) (ks_c18 cy ad o 0 0 _) hi10 dX5_responseOf_28 ?_
      refine lv_icmp_gt (tgt := 139) hx hb dX5_responseOf_29 (by decide) (fun c11 => ?_) (fun c11 => ?_)
      · rw [if_pos c11] at hf
        refine lv_iload_n hx hb dX5_responseOf_139 rfl (lv_at hl 3 rfl) ?_
        refine lv_aload_n hx hb dX5_responseOf_140 rfl (lv_at hl 0 rfl) ?_
        refine va_get (D := D) (ci := 5) (v := .ref (ad 18 0 0)) (C := RX5) (T := TX5) (N := 34) hx hb hts in_X5_responseOf_5 hown hK (ks_P1 hW (ks_v14 (i := 0) (j := 0) (hE 14 rfl)) (ks_c14 cy ad o 0 0 _)) 0 rfl rfl 4 (by decide) (hts (.fieldLink RX5 19 "SpinKernelModel" "deadlines" "[I") (by decide +kernel)) (fun _ h => h) rfl dX5_responseOf_141 ?_
        refine lv_iload_n hx hb dX5_responseOf_144 rfl (lv_at hl 1 rfl) ?_
        obtain ⟨hi12, hf⟩ := ks_guard hf
        refine ks_iald hx hb hK hW (ks_v18 (i := 0) (j := 0) (hE 18 rfl)) (ks_c18 cy ad o 0 0 _) hi12 dX5_responseOf_145 ?_
        refine lv_icmp_gt (tgt := 153) hx hb dX5_responseOf_146 (by decide) (fun c13 => ?_) (fun c13 => ?_)
        · rw [if_pos c13] at hf
          refine lv_iconst (v := (-1)) hx hb dX5_responseOf_153 (by decide) ?_
          exact ks_iret C hf hW hS dX5_responseOf_154
        · rw [if_neg c13] at hf
          refine lv_iload_n hx hb dX5_responseOf_149 rfl (lv_at hl 3 rfl) ?_
          refine lv_goto (tgt := 154) hx hb dX5_responseOf_150 (by decide) ?_
          exact ks_iret C hf hW hS dX5_responseOf_154
      · rw [if_neg c11] at hf
        refine lv_iload_n hx hb dX5_responseOf_32 rfl (lv_at hl 2 rfl) ?_
        refine lv_istore (lv' := [(5, .int x2), (0, .ref (ad 14 0 0)), (1, .int x1), (2, .int x2), (3, .int x3), (4, .int x4)]) hx hb dX5_responseOf_33 hl (by decide) rfl (fun ls hl => ?_)
        refine lv_iconst (v := 0) hx hb dX5_responseOf_35 (by decide) ?_
        refine lv_istore (lv' := [(6, .int 0), (5, .int x2), (0, .ref (ad 14 0 0)), (1, .int x1), (2, .int x2), (3, .int x3), (4, .int x4)]) hx hb dX5_responseOf_36 hl (by decide) rfl (fun ls hl => ?_)
        exact t_X5_responseOf_38 C hk17 _ _ _ _ _ _ _  hf hW hS (lv_sub hl [2, 3, 4, 5, 1, 0] rfl)
set_option maxHeartbeats 4000000 in
set_option maxRecDepth 100000 in
theorem t_X5_responseOf {p : Program} {l : Launch} {e : Env} {s : State} {m : MethodId} {args : Array Value} {below : List Frame} {meth : Method} {c : Code} {D : va_G} {cy : Nat → ClassId} {ad : ks_A} {En : Nat → Prop} {n0 : Nat → Prop} {σ0 : ks_S} {o : Int64} {N : Nat} {out : (Int32 × ks_S)} (C : ks_M p s m args meth c D cy ad En (fun k => ks_g k = 1) n0 σ0 o wsX5_responseOf cX5_responseOf RX5 7 (some .int)) {σ : ks_S} {x1 : Int32}  (hf : f_X5_responseOf N σ x1 = some out) {H : Heap} {locs : List Loc} {ls : Array Slot} (hW : ks_W D cy ad En σ o H) (hS : va_S (ks_F n0) s.heap H locs) (hl : lv_has ls 7 [(0, .ref (ad 14 0 0)), (1, .int x1)]) : W p l e (ks_Rm 3 0 0 75) s m args below meth c H locs 0 0 (MQ below (ks_Qi D cy ad En n0 o out) args s 0 0 (ks_F n0)) (F0 m 0 ls []) := by
  obtain ⟨hx, hb, hml, hr, hown, hts, hlocks, hG, hU0, hE⟩ := id C
  have hK := hU0.2.2
  unfold f_X5_responseOf at hf
  refine lv_aload_n hx hb dX5_responseOf_0 rfl (lv_at hl 0 rfl) ?_
  refine lv_iload_n hx hb dX5_responseOf_1 rfl (lv_at hl 1 rfl) ?_
  obtain ⟨⟨r3, s2⟩, hc1, hf⟩ := ks_bind hf
  try dsimp only at hf
  refine ks_calli (va_runV (As := [.int x1]) (rest := []) ⟨hx, hb, hml, hown, hts⟩ (m_X5_inflated l D cy ad En n0 hG hE o hc1) (cwV 1 hts gX5_responseOf_X5_inflated rfl rfl rfl (by decide +kernel) ⟨(Nat.le_of_ble_eq_true rfl), (Nat.le_of_ble_eq_true rfl)⟩) ⟨ks_U.blind, ks_recv hK hW (ks_v14 (i := 0) (j := 0) (hE 14 rfl)) (ks_c14 cy ad o 0 0 _) rfl, fun U hU hWm => ⟨rfl, hU0.now hS hW hWm.alike hU⟩⟩ rfl rfl hl.1 rfl (lv_room (Nat.le_of_ble_eq_true rfl)) dX5_responseOf_2 ⟨(Nat.le_of_ble_eq_true rfl), (Nat.le_of_ble_eq_true rfl)⟩) hS (fun H locs hW hS => ?_)
  refine lv_aload_n hx hb dX5_responseOf_5 rfl (lv_at hl 0 rfl) ?_
  refine lv_iload_n hx hb dX5_responseOf_6 rfl (lv_at hl 1 rfl) ?_
  obtain ⟨⟨r6, s5⟩, hc4, hf⟩ := ks_bind hf
  try dsimp only at hf
  refine ks_calli (va_runV (As := [.int x1]) (rest := [.int r3]) ⟨hx, hb, hml, hown, hts⟩ (m_X5_blocking l D cy ad En n0 hG hE o hc4) (cwV 1 hts gX5_responseOf_X5_blocking rfl rfl rfl (by decide +kernel) ⟨(Nat.le_of_ble_eq_true rfl), (Nat.le_of_ble_eq_true rfl)⟩) ⟨ks_U.blind, ks_recv hK hW (ks_v14 (i := 0) (j := 0) (hE 14 rfl)) (ks_c14 cy ad o 0 0 _) rfl, fun U hU hWm => ⟨rfl, hU0.now hS hW hWm.alike hU⟩⟩ rfl rfl hl.1 rfl (lv_room (Nat.le_of_ble_eq_true rfl)) dX5_responseOf_7 ⟨(Nat.le_of_ble_eq_true rfl), (Nat.le_of_ble_eq_true rfl)⟩) hS (fun H locs hW hS => ?_)
  refine lv_iadd hx hb dX5_responseOf_10 ?_
  refine lv_istore_n (lv' := [(2, .int (r3 + r6)), (0, .ref (ad 14 0 0)), (1, .int x1)]) hx hb dX5_responseOf_11 rfl hl (by decide) rfl (fun ls hl => ?_)
  refine lv_iload_n hx hb dX5_responseOf_12 rfl (lv_at hl 0 rfl) ?_
  refine lv_istore_n (lv' := [(3, .int (r3 + r6)), (2, .int (r3 + r6)), (0, .ref (ad 14 0 0)), (1, .int x1)]) hx hb dX5_responseOf_13 rfl hl (by decide) rfl (fun ls hl => ?_)
  refine lv_iconst (v := 1) hx hb dX5_responseOf_14 (by decide) ?_
  refine lv_istore (lv' := [(4, .int 1), (3, .int (r3 + r6)), (2, .int (r3 + r6)), (0, .ref (ad 14 0 0)), (1, .int x1)]) hx hb dX5_responseOf_15 hl (by decide) rfl (fun ls hl => ?_)
  exact t_X5_responseOf_17 C _ _ _ _ _ _  hf hW hS (lv_sub hl [3, 4, 2, 1, 0] rfl)
set_option maxHeartbeats 4000000 in
set_option maxRecDepth 100000 in
theorem m_X5_responseOf (l : Launch) (D : va_G) (cy : Nat → ClassId) (ad : ks_A) (En : Nat → Prop) (n0 : Nat → Prop) (hG : ks_G ad En n0) (hE : ∀ k, ks_g k = 1 → En k) (o : Int64) {N : Nat} {σ : ks_S} {x1 : Int32}  {out : (Int32 × ks_S)} (hf : f_X5_responseOf N σ x1 = some out) : Met l yX5_responseOf wsX5_responseOf (ks_Rm 3 0 0 75) (va_Pc [.ref (ad 14 0 0), .int x1] (ks_U D cy ad En n0 σ o)) (ks_Qi D cy ad En n0 o out) 0 0 (ks_F n0) := by
  refine Met.ofW (cc := cX5_responseOf) (maxL := 7) (ret := some .int) (by decide) rfl ?_
  intro p e s m args below meth c s₁ B hml hv
  obtain ⟨rfl, hU⟩ := hv
  have hl := lv_entry ([.ref (ad 14 0 0), .int x1]) (n := 7) (Nat.le_of_ble_eq_true rfl)
  rw [lg_entry_eq]
  generalize (lg_sl ([.ref (ad 14 0 0), .int x1]) ++ List.replicate (7 - (lg_sl ([.ref (ad 14 0 0), .int x1])).length) Slot.unset).toArray = ls at hl ⊢
  exact t_X5_responseOf ⟨B.exec, B.bytes, hml, B.returns, findClass_of_methodNamed B.named, atoms_spec (ws := wsX5_responseOf) B.pre, B.notSynchronized, hG, hU, hE⟩  hf hU.2.1 va_S.rf hl

/-! SpinKernelModel.bound(II)I -/
def f_X5_bound_28 (N : Nat) (σ : ks_S) (x1 : Int32) (x2 : Int32) (xs0 : Int32) (xs1 : Int32) : Option (Int32 × ks_S) :=
  ((f_X5_refused σ xs1 xs0 0).bind fun (r11, s10) => (if r11 = 0 then ((f_X5_findGroups N s10).bind fun s14 => (if x2 = 0 then ((f_X5_inflated N s14 x1).bind fun (r26, s25) => some (r26, s25)) else (if x2 = 1 then ((f_X5_blocking N s14 x1).bind fun (r23, s22) => some (r23, s22)) else ((f_X5_responseOf N s14 x1).bind fun (r20, s19) => some (r20, s19))))) else some (0, s10)))
def f_X5_bound_14 (N : Nat) (σ : ks_S) (x1 : Int32) (x2 : Int32) (xs0 : Int32) : Option (Int32 × ks_S) :=
  ((f_X5_within σ x2 0 2).bind fun (r7, s6) => (if r7 = 0 then f_X5_bound_28 N s6 x1 x2 1 xs0 else f_X5_bound_28 N s6 x1 x2 0 xs0))
def f_X5_bound (N : Nat) (σ : ks_S) (x1 : Int32) (x2 : Int32) : Option (Int32 × ks_S) :=
  ((f_X5_isTask σ x1).bind fun (r3, s2) => (if r3 = 0 then f_X5_bound_14 N s2 x1 x2 1 else f_X5_bound_14 N s2 x1 x2 0))
set_option maxHeartbeats 4000000 in
set_option maxRecDepth 100000 in
theorem t_X5_bound_28 {p : Program} {l : Launch} {e : Env} {s : State} {m : MethodId} {args : Array Value} {below : List Frame} {meth : Method} {c : Code} {D : va_G} {cy : Nat → ClassId} {ad : ks_A} {En : Nat → Prop} {n0 : Nat → Prop} {σ0 : ks_S} {o : Int64} {N : Nat} {out : (Int32 × ks_S)} (C : ks_M p s m args meth c D cy ad En (fun k => ks_g k = 1) n0 σ0 o wsX5_bound cX5_bound RX5 3 (some .int)) {σ : ks_S} {x1 : Int32} {x2 : Int32} {xs0 : Int32} {xs1 : Int32}  (hf : f_X5_bound_28 N σ x1 x2 xs0 xs1 = some out) {H : Heap} {locs : List Loc} {ls : Array Slot} (hW : ks_W D cy ad En σ o H) (hS : va_S (ks_F n0) s.heap H locs) (hl : lv_has ls 3 [(0, .ref (ad 14 0 0)), (1, .int x1), (2, .int x2)]) : W p l e (ks_Rm 4 0 0 101) s m args below meth c H locs 0 0 (MQ below (ks_Qi D cy ad En n0 o out) args s 0 0 (ks_F n0)) (F0 m 28 ls [.int xs0, .int xs1, .ref (ad 14 0 0)]) := by
  obtain ⟨hx, hb, hml, hr, hown, hts, hlocks, hG, hU0, hE⟩ := id C
  have hK := hU0.2.2
  unfold f_X5_bound_28 at hf
  refine lv_iconst (v := 0) hx hb dX5_bound_28 (by decide) ?_
  obtain ⟨⟨r11, s10⟩, hc9, hf⟩ := ks_bind hf
  try dsimp only at hf
  refine ks_calli (va_runV (As := [.int xs1, .int xs0, .int 0]) (rest := []) ⟨hx, hb, hml, hown, hts⟩ (m_X5_refused l D cy ad En n0 hG hE o hc9) (cwV 3 hts gX5_bound_X5_refused rfl rfl rfl (by decide +kernel) ⟨(Nat.le_of_ble_eq_true rfl), (Nat.le_of_ble_eq_true rfl)⟩) ⟨ks_U.blind, ks_recv hK hW (ks_v14 (i := 0) (j := 0) (hE 14 rfl)) (ks_c14 cy ad o 0 0 _) rfl, fun U hU hWm => ⟨rfl, hU0.now hS hW hWm.alike hU⟩⟩ rfl rfl hl.1 rfl (lv_room (Nat.le_of_ble_eq_true rfl)) dX5_bound_29 ⟨(Nat.le_of_ble_eq_true rfl), (Nat.le_of_ble_eq_true rfl)⟩) hS (fun H locs hW hS => ?_)
  refine lv_if_eq (tgt := 37) hx hb dX5_bound_32 (by decide) (fun c12 => ?_) (fun c12 => ?_)
  · rw [if_pos c12] at hf
    refine lv_aload_n hx hb dX5_bound_37 rfl (lv_at hl 0 rfl) ?_
    obtain ⟨s14, hc13, hf⟩ := ks_bind hf
    try dsimp only at hf
    refine ks_callv (va_runV (As := []) (rest := []) ⟨hx, hb, hml, hown, hts⟩ (m_X5_findGroups l D cy ad En n0 hG hE o hc13) (cwV 0 hts gX5_bound_X5_findGroups rfl rfl rfl (by decide +kernel) ⟨(Nat.le_of_ble_eq_true rfl), (Nat.le_of_ble_eq_true rfl)⟩) ⟨ks_U.blind, ks_recv hK hW (ks_v14 (i := 0) (j := 0) (hE 14 rfl)) (ks_c14 cy ad o 0 0 _) rfl, fun U hU hWm => ⟨rfl, hU0.now hS hW hWm.alike hU⟩⟩ rfl rfl hl.1 rfl (lv_room (Nat.le_of_ble_eq_true rfl)) dX5_bound_38 ⟨(Nat.le_of_ble_eq_true rfl), (Nat.le_of_ble_eq_true rfl)⟩) hS (fun H locs hW hS => ?_)
    refine lv_iload_n hx hb dX5_bound_41 rfl (lv_at hl 2 rfl) ?_
    refine lv_if_ne (tgt := 53) hx hb dX5_bound_42 (by decide) (fun c16 => ?_) (fun c16 => ?_)
    · rw [if_neg c16] at hf
      refine lv_iload_n hx hb dX5_bound_53 rfl (lv_at hl 2 rfl) ?_
      refine lv_iconst (v := 1) hx hb dX5_bound_54 (by decide) ?_
      refine lv_icmp_ne (tgt := 66) hx hb dX5_bound_55 (by decide) (fun c17 => ?_) (fun c17 => ?_)
      · rw [if_neg c17] at hf
        refine lv_aload_n hx hb dX5_bound_66 rfl (lv_at hl 0 rfl) ?_
        refine lv_iload_n hx hb dX5_bound_67 rfl (lv_at hl 1 rfl) ?_
        obtain ⟨⟨r20, s19⟩, hc18, hf⟩ := ks_bind hf
        try dsimp only at hf
        refine ks_calli (va_runV (As := [.int x1]) (rest := []) ⟨hx, hb, hml, hown, hts⟩ (m_X5_responseOf l D cy ad En n0 hG hE o hc18) (cwV 1 hts gX5_bound_X5_responseOf rfl rfl rfl (by decide +kernel) ⟨(Nat.le_of_ble_eq_true rfl), (Nat.le_of_ble_eq_true rfl)⟩) ⟨ks_U.blind, ks_recv hK hW (ks_v14 (i := 0) (j := 0) (hE 14 rfl)) (ks_c14 cy ad o 0 0 _) rfl, fun U hU hWm => ⟨rfl, hU0.now hS hW hWm.alike hU⟩⟩ rfl rfl hl.1 rfl (lv_room (Nat.le_of_ble_eq_true rfl)) dX5_bound_68 ⟨(Nat.le_of_ble_eq_true rfl), (Nat.le_of_ble_eq_true rfl)⟩) hS (fun H locs hW hS => ?_)
        exact ks_iret C hf hW hS dX5_bound_71
      · rw [if_pos c17] at hf
        refine lv_aload_n hx hb dX5_bound_58 rfl (lv_at hl 0 rfl) ?_
        refine lv_iload_n hx hb dX5_bound_59 rfl (lv_at hl 1 rfl) ?_
        obtain ⟨⟨r23, s22⟩, hc21, hf⟩ := ks_bind hf
        try dsimp only at hf
        refine ks_calli (va_runV (As := [.int x1]) (rest := []) ⟨hx, hb, hml, hown, hts⟩ (m_X5_blocking l D cy ad En n0 hG hE o hc21) (cwV 1 hts gX5_bound_X5_blocking rfl rfl rfl (by decide +kernel) ⟨(Nat.le_of_ble_eq_true rfl), (Nat.le_of_ble_eq_true rfl)⟩) ⟨ks_U.blind, ks_recv hK hW (ks_v14 (i := 0) (j := 0) (hE 14 rfl)) (ks_c14 cy ad o 0 0 _) rfl, fun U hU hWm => ⟨rfl, hU0.now hS hW hWm.alike hU⟩⟩ rfl rfl hl.1 rfl (lv_room (Nat.le_of_ble_eq_true rfl)) dX5_bound_60 ⟨(Nat.le_of_ble_eq_true rfl), (Nat.le_of_ble_eq_true rfl)⟩) hS (fun H locs hW hS => ?_)
        refine lv_goto (tgt := 71) hx hb dX5_bound_63 (by decide) ?_
        exact ks_iret C hf hW hS dX5_bound_71
    · rw [if_pos c16] at hf
      refine lv_aload_n hx hb dX5_bound_45 rfl (lv_at hl 0 rfl) ?_
      refine lv_iload_n hx hb dX5_bound_46 rfl (lv_at hl 1 rfl) ?_
      obtain ⟨⟨r26, s25⟩, hc24, hf⟩ := ks_bind hf
      try dsimp only at hf
      refine ks_calli (va_runV (As := [.int x1]) (rest := []) ⟨hx, hb, hml, hown, hts⟩ (m_X5_inflated l D cy ad En n0 hG hE o hc24) (cwV 1 hts gX5_bound_X5_inflated rfl rfl rfl (by decide +kernel) ⟨(Nat.le_of_ble_eq_true rfl), (Nat.le_of_ble_eq_true rfl)⟩) ⟨ks_U.blind, ks_recv hK hW (ks_v14 (i := 0) (j := 0) (hE 14 rfl)) (ks_c14 cy ad o 0 0 _) rfl, fun U hU hWm => ⟨rfl, hU0.now hS hW hWm.alike hU⟩⟩ rfl rfl hl.1 rfl (lv_room (Nat.le_of_ble_eq_true rfl)) dX5_bound_47 ⟨(Nat.le_of_ble_eq_true rfl), (Nat.le_of_ble_eq_true rfl)⟩) hS (fun H locs hW hS => ?_)
      refine lv_goto (tgt := 71) hx hb dX5_bound_50 (by decide) ?_
      exact ks_iret C hf hW hS dX5_bound_71
  · rw [if_neg c12] at hf
    refine lv_iconst (v := 0) hx hb dX5_bound_35 (by decide) ?_
    exact ks_iret C hf hW hS dX5_bound_36
set_option maxHeartbeats 4000000 in
set_option maxRecDepth 100000 in
theorem t_X5_bound_14 {p : Program} {l : Launch} {e : Env} {s : State} {m : MethodId} {args : Array Value} {below : List Frame} {meth : Method} {c : Code} {D : va_G} {cy : Nat → ClassId} {ad : ks_A} {En : Nat → Prop} {n0 : Nat → Prop} {σ0 : ks_S} {o : Int64} {N : Nat} {out : (Int32 × ks_S)} (C : ks_M p s m args meth c D cy ad En (fun k => ks_g k = 1) n0 σ0 o wsX5_bound cX5_bound RX5 3 (some .int)) {σ : ks_S} {x1 : Int32} {x2 : Int32} {xs0 : Int32}  (hf : f_X5_bound_14 N σ x1 x2 xs0 = some out) {H : Heap} {locs : List Loc} {ls : Array Slot} (hW : ks_W D cy ad En σ o H) (hS : va_S (ks_F n0) s.heap H locs) (hl : lv_has ls 3 [(0, .ref (ad 14 0 0)), (1, .int x1), (2, .int x2)]) : W p l e (ks_Rm 4 0 0 101) s m args below meth c H locs 0 0 (MQ below (ks_Qi D cy ad En n0 o out) args s 0 0 (ks_F n0)) (F0 m 14 ls [.int xs0, .ref (ad 14 0 0)]) := by
  obtain ⟨hx, hb, hml, hr, hown, hts, hlocks, hG, hU0, hE⟩ := id C
  have hK := hU0.2.2
  unfold f_X5_bound_14 at hf
  refine lv_iload_n hx hb dX5_bound_14 rfl (lv_at hl 2 rfl) ?_
  refine lv_iconst (v := 0) hx hb dX5_bound_15 (by decide) ?_
  refine lv_iconst (v := 2) hx hb dX5_bound_16 (by decide) ?_
  obtain ⟨⟨r7, s6⟩, hc5, hf⟩ := ks_bind hf
  try dsimp only at hf
  refine ks_calli (va_runS (As := [.int x2, .int 0, .int 2]) (rest := [.int xs0, .ref (ad 14 0 0)]) ⟨hx, hb, hml, hown, hts⟩ (m_X5_within l D cy ad En n0 hG hE o hc5) (va_cwS 3 hts gX5_bound_X5_within rfl rfl rfl (by decide +kernel) ⟨(Nat.le_of_ble_eq_true rfl), (Nat.le_of_ble_eq_true rfl)⟩) ⟨ks_U.blind, fun U hU hWm => ⟨rfl, hU0.now hS hW hWm.alike hU⟩⟩ rfl rfl hl.1 rfl (lv_room (Nat.le_of_ble_eq_true rfl)) dX5_bound_17 ⟨(Nat.le_of_ble_eq_true rfl), (Nat.le_of_ble_eq_true rfl)⟩) hS (fun H locs hW hS => ?_)
  refine lv_if_ne (tgt := 27) hx hb dX5_bound_20 (by decide) (fun c8 => ?_) (fun c8 => ?_)
  · rw [if_neg c8] at hf
    refine lv_iconst (v := 0) hx hb dX5_bound_27 (by decide) ?_
    exact t_X5_bound_28 C  hf hW hS (lv_sub hl [0, 1, 2] rfl)
  · rw [if_pos c8] at hf
    refine lv_iconst (v := 1) hx hb dX5_bound_23 (by decide) ?_
    refine lv_goto (tgt := 28) hx hb dX5_bound_24 (by decide) ?_
    exact t_X5_bound_28 C  hf hW hS (lv_sub hl [0, 1, 2] rfl)
set_option maxHeartbeats 4000000 in
set_option maxRecDepth 100000 in
theorem t_X5_bound {p : Program} {l : Launch} {e : Env} {s : State} {m : MethodId} {args : Array Value} {below : List Frame} {meth : Method} {c : Code} {D : va_G} {cy : Nat → ClassId} {ad : ks_A} {En : Nat → Prop} {n0 : Nat → Prop} {σ0 : ks_S} {o : Int64} {N : Nat} {out : (Int32 × ks_S)} (C : ks_M p s m args meth c D cy ad En (fun k => ks_g k = 1) n0 σ0 o wsX5_bound cX5_bound RX5 3 (some .int)) {σ : ks_S} {x1 : Int32} {x2 : Int32}  (hf : f_X5_bound N σ x1 x2 = some out) {H : Heap} {locs : List Loc} {ls : Array Slot} (hW : ks_W D cy ad En σ o H) (hS : va_S (ks_F n0) s.heap H locs) (hl : lv_has ls 3 [(0, .ref (ad 14 0 0)), (1, .int x1), (2, .int x2)]) : W p l e (ks_Rm 4 0 0 101) s m args below meth c H locs 0 0 (MQ below (ks_Qi D cy ad En n0 o out) args s 0 0 (ks_F n0)) (F0 m 0 ls []) := by
  obtain ⟨hx, hb, hml, hr, hown, hts, hlocks, hG, hU0, hE⟩ := id C
  have hK := hU0.2.2
  unfold f_X5_bound at hf
  refine lv_aload_n hx hb dX5_bound_0 rfl (lv_at hl 0 rfl) ?_
  refine lv_aload_n hx hb dX5_bound_1 rfl (lv_at hl 0 rfl) ?_
  refine lv_iload_n hx hb dX5_bound_2 rfl (lv_at hl 1 rfl) ?_
  obtain ⟨⟨r3, s2⟩, hc1, hf⟩ := ks_bind hf
  try dsimp only at hf
  refine ks_calli (va_runV (As := [.int x1]) (rest := [.ref (ad 14 0 0)]) ⟨hx, hb, hml, hown, hts⟩ (m_X5_isTask l D cy ad En n0 hG hE o hc1) (cwV 1 hts gX5_bound_X5_isTask rfl rfl rfl (by decide +kernel) ⟨(Nat.le_of_ble_eq_true rfl), (Nat.le_of_ble_eq_true rfl)⟩) ⟨ks_U.blind, ks_recv hK hW (ks_v14 (i := 0) (j := 0) (hE 14 rfl)) (ks_c14 cy ad o 0 0 _) rfl, fun U hU hWm => ⟨rfl, hU0.now hS hW hWm.alike hU⟩⟩ rfl rfl hl.1 rfl (lv_room (Nat.le_of_ble_eq_true rfl)) dX5_bound_3 ⟨(Nat.le_of_ble_eq_true rfl), (Nat.le_of_ble_eq_true rfl)⟩) hS (fun H locs hW hS => ?_)
  refine lv_if_ne (tgt := 13) hx hb dX5_bound_6 (by decide) (fun c4 => ?_) (fun c4 => ?_)
  · rw [if_neg c4] at hf
    refine lv_iconst (v := 0) hx hb dX5_bound_13 (by decide) ?_
    exact t_X5_bound_14 C  hf hW hS (lv_sub hl [0, 1, 2] rfl)
  · rw [if_pos c4] at hf
    refine lv_iconst (v := 1) hx hb dX5_bound_9 (by decide) ?_
    refine lv_goto (tgt := 14) hx hb dX5_bound_10 (by decide) ?_
    exact t_X5_bound_14 C  hf hW hS (lv_sub hl [0, 1, 2] rfl)
set_option maxHeartbeats 4000000 in
set_option maxRecDepth 100000 in
theorem m_X5_bound (l : Launch) (D : va_G) (cy : Nat → ClassId) (ad : ks_A) (En : Nat → Prop) (n0 : Nat → Prop) (hG : ks_G ad En n0) (hE : ∀ k, ks_g k = 1 → En k) (o : Int64) {N : Nat} {σ : ks_S} {x1 : Int32} {x2 : Int32}  {out : (Int32 × ks_S)} (hf : f_X5_bound N σ x1 x2 = some out) : Met l yX5_bound wsX5_bound (ks_Rm 4 0 0 101) (va_Pc [.ref (ad 14 0 0), .int x1, .int x2] (ks_U D cy ad En n0 σ o)) (ks_Qi D cy ad En n0 o out) 0 0 (ks_F n0) := by
  refine Met.ofW (cc := cX5_bound) (maxL := 3) (ret := some .int) (by decide) rfl ?_
  intro p e s m args below meth c s₁ B hml hv
  obtain ⟨rfl, hU⟩ := hv
  have hl := lv_entry ([.ref (ad 14 0 0), .int x1, .int x2]) (n := 3) (Nat.le_of_ble_eq_true rfl)
  rw [lg_entry_eq]
  generalize (lg_sl ([.ref (ad 14 0 0), .int x1, .int x2]) ++ List.replicate (3 - (lg_sl ([.ref (ad 14 0 0), .int x1, .int x2])).length) Slot.unset).toArray = ls at hl ⊢
  exact t_X5_bound ⟨B.exec, B.bytes, hml, B.returns, findClass_of_methodNamed B.named, atoms_spec (ws := wsX5_bound) B.pre, B.notSynchronized, hG, hU, hE⟩  hf hU.2.1 va_S.rf hl
