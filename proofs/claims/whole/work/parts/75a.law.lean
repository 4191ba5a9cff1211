def f_law_0 (N : Nat) (xs : Nat → Int32) (L : Nat) (k : ks_S → Int64 → Int32 → Option Bool) (σ : ks_S) (o : Int64) (i : Int32) : Option Bool :=
  (if ks_in ((i + 1)) L = true then (if ks_in ((i + 2)) L = true then (if ks_in ((i + 3)) L = true then (if ks_in ((i + 4)) L = true then (if ks_in ((i + 5)) L = true then (if ks_in ((i + 6)) L = true then ((f_L_task N σ o ((xs ((i + 1)).toNatClampNeg)) ((xs ((i + 2)).toNatClampNeg)) ((xs ((i + 3)).toNatClampNeg)) ((xs ((i + 4)).toNatClampNeg)) ((xs ((i + 5)).toNatClampNeg)) ((xs ((i + 6)).toNatClampNeg))).bind fun (r8, (s7, o10)) => (if ks_in ((i + 1)) L = true then (if ks_in ((i + 2)) L = true then (if ks_in ((i + 3)) L = true then (if ks_in ((i + 4)) L = true then (if ks_in ((i + 5)) L = true then (if ks_in ((i + 6)) L = true then ((f_X5_task N s7 ((xs ((i + 1)).toNatClampNeg)) ((xs ((i + 2)).toNatClampNeg)) ((xs ((i + 3)).toNatClampNeg)) ((xs ((i + 4)).toNatClampNeg)) ((xs ((i + 5)).toNatClampNeg)) ((xs ((i + 6)).toNatClampNeg))).bind fun s17 => ((f_X5_thrown s17).bind fun (r21, s20) => (if r21 = r8 then k s20 o10 ((i + 7)) else some false))) else none) else none) else none) else none) else none) else none)) else none) else none) else none) else none) else none) else none)
set_option maxHeartbeats 4000000 in
set_option maxRecDepth 100000 in
theorem t_law_0 {p : Program} {l : Launch} {e : Env} {s : State} {m : MethodId} {below : List Frame} {meth : Method} {c : Code} {b L : Nat} {xs : Nat → Int32} {D : va_G} {cy : Nat → ClassId} {ad : ks_A} {En : Nat → Prop} {n0 : Nat → Prop} {N : Nat} {k : ks_S → Int64 → Int32 → Option Bool} (hlt : l.stackTraces = false) (C0 : lw_At p s m meth c b L xs) (hn0 : True) (hbA : ¬ ks_F n0 b) (hK : va_K D vwCl (ks_t cy) s) (hN : ks_N n0 s) (hNC : ks_NC s) (hG : ks_G ad En n0) (hE : ∀ k, En k) {c9 z9 : Nat} (hc9 : c9 + 8 ≤ 607239) (hz9 : z9 + 48 ≤ 7274386) (hk : ∀ (σ : ks_S) (o : Int64) (i : Int32), k σ o i = some true → ∀ {H : Heap} {locs : List Loc} {ls : Array Slot}, ks_W D cy ad En σ o H → va_S (ks_F n0) s.heap H locs → lv_has ls 7 [(0, .ref b), (1, .ref (ad 0 0 0)), (2, .ref (ad 14 0 0)), (3, .ref (ad 45 0 0)), (4, .int i)] → ∀ {c8 z8 : Nat}, c8 ≤ c9 + 8 → z8 ≤ z9 + 48 → W p l e room_1 s m #[Value.ref b] below meth c H locs c8 z8 (lw_Z below #[Value.ref b] s) (F0 m 23 ls [])) {σ : ks_S} {o : Int64} {i : Int32} (hf : f_law_0 N xs L k σ o i = some true) {H : Heap} {locs : List Loc} {ls : Array Slot} (hW : ks_W D cy ad En σ o H) (hS : va_S (ks_F n0) s.heap H locs) (hl : lv_has ls 7 [(0, .ref b), (1, .ref (ad 0 0 0)), (2, .ref (ad 14 0 0)), (3, .ref (ad 45 0 0)), (4, .int i)]) : W p l e room_1 s m #[Value.ref b] below meth c H locs c9 z9 (lw_Z below #[Value.ref b] s) (F0 m 120 ls []) := by
  obtain ⟨hx, hb, hr, hml, hown, hts0, hX, hbl, hlocks, hgv⟩ := id C0
  have hts : ∀ w ∈ wsL_law, w.before #[Value.ref b] s = true := fun w h => hts0 w (wsL_law_in w h)
  unfold f_law_0 at hf
  refine lv_aload_n hx hb dL_law_120 rfl (lv_at hl 1 rfl) ?_
  refine lv_aload_n hx hb dL_law_121 rfl (lv_at hl 0 rfl) ?_
  refine lv_iload hx hb dL_law_122 (lv_at hl 4 rfl) ?_
  refine lv_iconst (v := 1) hx hb dL_law_124 (by decide) ?_
  refine lv_iadd hx hb dL_law_125 ?_
  obtain ⟨hi1, hf⟩ := ks_guard hf
  refine va_sld hx hb hX hbl hbA hS (ks_in_vp hi1) dL_law_126 ?_
  refine lv_aload_n hx hb dL_law_127 rfl (lv_at hl 0 rfl) ?_
  refine lv_iload hx hb dL_law_128 (lv_at hl 4 rfl) ?_
  refine lv_iconst (v := 2) hx hb dL_law_130 (by decide) ?_
  refine lv_iadd hx hb dL_law_131 ?_
  obtain ⟨hi2, hf⟩ := ks_guard hf
  refine va_sld hx hb hX hbl hbA hS (ks_in_vp hi2) dL_law_132 ?_
  refine lv_aload_n hx hb dL_law_133 rfl (lv_at hl 0 rfl) ?_
  refine lv_iload hx hb dL_law_134 (lv_at hl 4 rfl) ?_
  refine lv_iconst (v := 3) hx hb dL_law_136 (by decide) ?_
  refine lv_iadd hx hb dL_law_137 ?_
  obtain ⟨hi3, hf⟩ := ks_guard hf
  refine va_sld hx hb hX hbl hbA hS (ks_in_vp hi3) dL_law_138 ?_
  refine lv_aload_n hx hb dL_law_139 rfl (lv_at hl 0 rfl) ?_
  refine lv_iload hx hb dL_law_140 (lv_at hl 4 rfl) ?_
  refine lv_iconst (v := 4) hx hb dL_law_142 (by decide) ?_
  refine lv_iadd hx hb dL_law_143 ?_
  obtain ⟨hi4, hf⟩ := ks_guard hf
  refine va_sld hx hb hX hbl hbA hS (ks_in_vp hi4) dL_law_144 ?_
  refine lv_aload_n hx hb dL_law_145 rfl (lv_at hl 0 rfl) ?_
  refine lv_iload hx hb dL_law_146 (lv_at hl 4 rfl) ?_
  refine lv_iconst (v := 5) hx hb dL_law_148 (by decide) ?_
  refine lv_iadd hx hb dL_law_149 ?_
  obtain ⟨hi5, hf⟩ := ks_guard hf
  refine va_sld hx hb hX hbl hbA hS (ks_in_vp hi5) dL_law_150 ?_
  refine lv_aload_n hx hb dL_law_151 rfl (lv_at hl 0 rfl) ?_
  refine lv_iload hx hb dL_law_152 (lv_at hl 4 rfl) ?_
  refine lv_bipush (v := 6) hx hb dL_law_154 (by decide) ?_
  refine lv_iadd hx hb dL_law_156 ?_
  obtain ⟨hi6, hf⟩ := ks_guard hf
  refine va_sld hx hb hX hbl hbA hS (ks_in_vp hi6) dL_law_157 ?_
  obtain ⟨⟨r8, s7, o10⟩, hc9, hf⟩ := ks_bind hf
  try dsimp only at hf
  refine ks_lcall (vx_runSX (hh := [(0, 13, 16, 13), (0, 13, 20, 15), (0, 13, 24, 17)]) (As := [.ref (ad 0 0 0), .int (xs ((i + 1)).toNatClampNeg), .int (xs ((i + 2)).toNatClampNeg), .int (xs ((i + 3)).toNatClampNeg), .int (xs ((i + 4)).toNatClampNeg), .int (xs ((i + 5)).toNatClampNeg), .int (xs ((i + 6)).toNatClampNeg)]) (rest := []) ⟨hx, hb, hml, hown, hts⟩ (m_L_task l hlt D cy ad En n0 hG hE o hc9) (vx_cwSW 7 hts gL_law_L_task rfl rfl rfl (by decide +kernel) ⟨(Nat.le_of_ble_eq_true rfl), (Nat.le_of_ble_eq_true rfl)⟩) ⟨ks_UL.blind, fun U hU9 hWm => ⟨rfl, ks_at hn0 hK hS hW hWm.alike hU9, hN.now hS hWm.alike hU9, hNC.moved hWm.alike⟩⟩ rfl rfl hl.1 rfl (lv_room (Nat.le_of_ble_eq_true rfl)) dL_law_158 ⟨show c9 + 1 ≤ 607239 by omega, show z9 + 6 ≤ 7274386 by omega⟩) hS (fun H locs hW hS => ?_)
  refine lv_istore (lv' := [(5, .int r8), (0, .ref b), (1, .ref (ad 0 0 0)), (2, .ref (ad 14 0 0)), (3, .ref (ad 45 0 0)), (4, .int i)]) hx hb dL_law_161 hl (by decide) rfl (fun ls hl => ?_)
  refine lv_aload_n hx hb dL_law_163 rfl (lv_at hl 3 rfl) ?_
  refine lv_aload_n hx hb dL_law_164 rfl (lv_at hl 1 rfl) ?_
  refine lv_iload hx hb dL_law_165 (lv_at hl 5 rfl) ?_
  refine lv_iconst (v := 1) hx hb dL_law_167 (by decide) ?_
  refine lv_iadd hx hb dL_law_168 ?_
  obtain ⟨hi11, hf⟩ := ks_guard hf
  refine va_sld hx hb hX hbl hbA hS (ks_in_vp hi11) dL_law_169 ?_
  refine lv_aload_n hx hb dL_law_170 rfl (lv_at hl 1 rfl) ?_
  refine lv_iload hx hb dL_law_171 (lv_at hl 5 rfl) ?_
  refine lv_iconst (v := 2) hx hb dL_law_173 (by decide) ?_
  refine lv_iadd hx hb dL_law_174 ?_
  obtain ⟨hi12, hf⟩ := ks_guard hf
  refine va_sld hx hb hX hbl hbA hS (ks_in_vp hi12) dL_law_175 ?_
  refine lv_aload_n hx hb dL_law_176 rfl (lv_at hl 1 rfl) ?_
  refine lv_iload hx hb dL_law_177 (lv_at hl 5 rfl) ?_
  refine lv_iconst (v := 3) hx hb dL_law_179 (by decide) ?_
  refine lv_iadd hx hb dL_law_180 ?_
  obtain ⟨hi13, hf⟩ := ks_guard hf
  refine va_sld hx hb hX hbl hbA hS (ks_in_vp hi13) dL_law_181 ?_
  refine lv_aload_n hx hb dL_law_182 rfl (lv_at hl 1 rfl) ?_
  refine lv_iload hx hb dL_law_183 (lv_at hl 5 rfl) ?_
  refine lv_iconst (v := 4) hx hb dL_law_185 (by decide) ?_
  refine lv_iadd hx hb dL_law_186 ?_
  obtain ⟨hi14, hf⟩ := ks_guard hf
  refine va_sld hx hb hX hbl hbA hS (ks_in_vp hi14) dL_law_187 ?_
  refine lv_aload_n hx hb dL_law_188 rfl (lv_at hl 1 rfl) ?_
  refine lv_iload hx hb dL_law_189 (lv_at hl 5 rfl) ?_
  refine lv_iconst (v := 5) hx hb dL_law_191 (by decide) ?_
  refine lv_iadd hx hb dL_law_192 ?_
  obtain ⟨hi15, hf⟩ := ks_guard hf
  refine va_sld hx hb hX hbl hbA hS (ks_in_vp hi15) dL_law_193 ?_
  refine lv_aload_n hx hb dL_law_194 rfl (lv_at hl 1 rfl) ?_
  refine lv_iload hx hb dL_law_195 (lv_at hl 5 rfl) ?_
  refine lv_bipush (v := 6) hx hb dL_law_197 (by decide) ?_
  refine lv_iadd hx hb dL_law_199 ?_
  obtain ⟨hi16, hf⟩ := ks_guard hf
  refine va_sld hx hb hX hbl hbA hS (ks_in_vp hi16) dL_law_200 ?_
  obtain ⟨s17, hc19, hf⟩ := ks_bind hf
  try dsimp only at hf
  refine ks_callv (va_runV (As := [.int (xs ((i + 1)).toNatClampNeg), .int (xs ((i + 2)).toNatClampNeg), .int (xs ((i + 3)).toNatClampNeg), .int (xs ((i + 4)).toNatClampNeg), .int (xs ((i + 5)).toNatClampNeg), .int (xs ((i + 6)).toNatClampNeg)]) (rest := []) ⟨hx, hb, hml, hown, hts⟩ (m_X5_task l D cy ad En n0 hG (fun k _ => hE k) o10 hc19) (cwV 6 hts gL_law_X5_task rfl rfl rfl (by decide +kernel) ⟨(Nat.le_of_ble_eq_true rfl), (Nat.le_of_ble_eq_true rfl)⟩) ⟨ks_U.blind, ks_recv hK hW (ks_v14 (i := 0) (j := 0) (hE 14)) (ks_c14 cy ad _ 0 0 _) rfl, fun U hU9 hWm => ⟨rfl, ks_at hn0 hK hS hW hWm.alike hU9⟩⟩ rfl rfl hl.1 rfl (lv_room (Nat.le_of_ble_eq_true rfl)) dL_law_201 ⟨show (c9 + 1) + 0 ≤ 607239 by omega, show (z9 + 6) + 0 ≤ 7274386 by omega⟩) hS (fun H locs hW hS => ?_)
  refine lv_aload_n hx hb dL_law_204 rfl (lv_at hl 3 rfl) ?_
  obtain ⟨⟨r21, s20⟩, hc22, hf⟩ := ks_bind hf
  try dsimp only at hf
  refine ks_calli (va_runV (As := []) (rest := []) ⟨hx, hb, hml, hown, hts⟩ (m_X5_thrown l D cy ad En n0 hG (fun k _ => hE k) o10 hc22) (cwV 0 hts gL_law_X5_thrown rfl rfl rfl (by decide +kernel) ⟨(Nat.le_of_ble_eq_true rfl), (Nat.le_of_ble_eq_true rfl)⟩) ⟨ks_U.blind, ks_recv hK hW (ks_v14 (i := 0) (j := 0) (hE 14)) (ks_c14 cy ad _ 0 0 _) rfl, fun U hU9 hWm => ⟨rfl, ks_at hn0 hK hS hW hWm.alike hU9⟩⟩ rfl rfl hl.1 rfl (lv_room (Nat.le_of_ble_eq_true rfl)) dL_law_205 ⟨show (c9 + 1) + 0 ≤ 607239 by omega, show (z9 + 6) + 0 ≤ 7274386 by omega⟩) hS (fun H locs hW hS => ?_)
  refine lv_iload hx hb dL_law_208 (lv_at hl 0 rfl) ?_
  refine lv_icmp_eq (tgt := 215) hx hb dL_law_210 (by decide) (fun c23 => ?_) (fun c23 => ?_)
  · rw [if_pos c23] at hf
    refine lv_goto (tgt := 1082) hx hb dL_law_215 (by decide) ?_
    refine lv_iinc (v := (i + 7)) (lv' := [(4, .int (i + 7)), (5, .int r8), (0, .ref b), (1, .ref (ad 0 0 0)), (2, .ref (ad 14 0 0)), (3, .ref (ad 45 0 0))]) hx hb dL_law_1082 hl (k := 5) rfl rfl (by decide) rfl (fun ls hl => ?_)
    refine lv_goto (tgt := 23) hx hb dL_law_1085 (by decide) ?_
    exact hk s20 o10 ((i + 7)) hf hW hS (lv_sub hl [2, 3, 4, 5, 0] rfl) (by omega) (by omega)
  · rw [if_neg c23] at hf
    refine lv_iconst (v := 0) hx hb dL_law_213 (by decide) ?_
    exact absurd hf (by simp)
def f_law_1 (N : Nat) (xs : Nat → Int32) (L : Nat) (k : ks_S → Int64 → Int32 → Option Bool) (σ : ks_S) (o : Int64) (i : Int32) : Option Bool :=
  (if ks_in ((i + 1)) L = true then (if ks_in ((i + 2)) L = true then (if ks_in ((i + 3)) L = true then (if ks_in ((i + 4)) L = true then (if ks_in ((i + 5)) L = true then ((f_L_request N σ o ((xs ((i + 1)).toNatClampNeg)) ((xs ((i + 2)).toNatClampNeg)) ((xs ((i + 3)).toNatClampNeg)) ((xs ((i + 4)).toNatClampNeg)) ((xs ((i + 5)).toNatClampNeg))).bind fun (r7, (s6, o9)) => (if ks_in ((i + 1)) L = true then (if ks_in ((i + 2)) L = true then (if ks_in ((i + 3)) L = true then (if ks_in ((i + 4)) L = true then (if ks_in ((i + 5)) L = true then ((f_X5_request N s6 ((xs ((i + 1)).toNatClampNeg)) ((xs ((i + 2)).toNatClampNeg)) ((xs ((i + 3)).toNatClampNeg)) ((xs ((i + 4)).toNatClampNeg)) ((xs ((i + 5)).toNatClampNeg))).bind fun (r16, s15) => ((f_X5_thrown s15).bind fun (r19, s18) => (if r19 = r7 then (if r7 = 0 then (if ((lg_cmp o9 r16.toInt64)) = 0 then k s18 o9 ((i + 7)) else some false) else k s18 o9 ((i + 7))) else some false))) else none) else none) else none) else none) else none)) else none) else none) else none) else none) else none)
set_option maxHeartbeats 4000000 in
set_option maxRecDepth 100000 in
theorem t_law_1 {p : Program} {l : Launch} {e : Env} {s : State} {m : MethodId} {below : List Frame} {meth : Method} {c : Code} {b L : Nat} {xs : Nat → Int32} {D : va_G} {cy : Nat → ClassId} {ad : ks_A} {En : Nat → Prop} {n0 : Nat → Prop} {N : Nat} {k : ks_S → Int64 → Int32 → Option Bool} (hlt : l.stackTraces = false) (C0 : lw_At p s m meth c b L xs) (hn0 : True) (hbA : ¬ ks_F n0 b) (hK : va_K D vwCl (ks_t cy) s) (hN : ks_N n0 s) (hNC : ks_NC s) (hG : ks_G ad En n0) (hE : ∀ k, En k) {c9 z9 : Nat} (hc9 : c9 + 8 ≤ 607239) (hz9 : z9 + 48 ≤ 7274386) (hk : ∀ (σ : ks_S) (o : Int64) (i : Int32), k σ o i = some true → ∀ {H : Heap} {locs : List Loc} {ls : Array Slot}, ks_W D cy ad En σ o H → va_S (ks_F n0) s.heap H locs → lv_has ls 7 [(0, .ref b), (1, .ref (ad 0 0 0)), (2, .ref (ad 14 0 0)), (3, .ref (ad 45 0 0)), (4, .int i)] → ∀ {c8 z8 : Nat}, c8 ≤ c9 + 8 → z8 ≤ z9 + 48 → W p l e room_1 s m #[Value.ref b] below meth c H locs c8 z8 (lw_Z below #[Value.ref b] s) (F0 m 23 ls [])) {σ : ks_S} {o : Int64} {i : Int32} (hf : f_law_1 N xs L k σ o i = some true) {H : Heap} {locs : List Loc} {ls : Array Slot} (hW : ks_W D cy ad En σ o H) (hS : va_S (ks_F n0) s.heap H locs) (hl : lv_has ls 7 [(0, .ref b), (1, .ref (ad 0 0 0)), (2, .ref (ad 14 0 0)), (3, .ref (ad 45 0 0)), (4, .int i)]) : W p l e room_1 s m #[Value.ref b] below meth c H locs c9 z9 (lw_Z below #[Value.ref b] s) (F0 m 218 ls []) := by
  obtain ⟨hx, hb, hr, hml, hown, hts0, hX, hbl, hlocks, hgv⟩ := id C0
  have hts : ∀ w ∈ wsL_law, w.before #[Value.ref b] s = true := fun w h => hts0 w (wsL_law_in w h)
  unfold f_law_1 at hf
  refine lv_aload_n hx hb dL_law_218 rfl (lv_at hl 1 rfl) ?_
  refine lv_aload_n hx hb dL_law_219 rfl (lv_at hl 0 rfl) ?_
  refine lv_iload hx hb dL_law_220 (lv_at hl 4 rfl) ?_
  refine lv_iconst (v := 1) hx hb dL_law_222 (by decide) ?_
  refine lv_iadd hx hb dL_law_223 ?_
  obtain ⟨hi1, hf⟩ := ks_guard hf
  refine va_sld hx hb hX hbl hbA hS (ks_in_vp hi1) dL_law_224 ?_
  refine lv_aload_n hx hb dL_law_225 rfl (lv_at hl 0 rfl) ?_
  refine lv_iload hx hb dL_law_226 (lv_at hl 4 rfl) ?_
  refine lv_iconst (v := 2) hx hb dL_law_228 (by decide) ?_
  refine lv_iadd hx hb dL_law_229 ?_
  obtain ⟨hi2, hf⟩ := ks_guard hf
  refine va_sld hx hb hX hbl hbA hS (ks_in_vp hi2) dL_law_230 ?_
  refine lv_aload_n hx hb dL_law_231 rfl (lv_at hl 0 rfl) ?_
  refine lv_iload hx hb dL_law_232 (lv_at hl 4 rfl) ?_
  refine lv_iconst (v := 3) hx hb dL_law_234 (by decide) ?_
  refine lv_iadd hx hb dL_law_235 ?_
  obtain ⟨hi3, hf⟩ := ks_guard hf
  refine va_sld hx hb hX hbl hbA hS (ks_in_vp hi3) dL_law_236 ?_
  refine lv_aload_n hx hb dL_law_237 rfl (lv_at hl 0 rfl) ?_
  refine lv_iload hx hb dL_law_238 (lv_at hl 4 rfl) ?_
  refine lv_iconst (v := 4) hx hb dL_law_240 (by decide) ?_
  refine lv_iadd hx hb dL_law_241 ?_
  obtain ⟨hi4, hf⟩ := ks_guard hf
  refine va_sld hx hb hX hbl hbA hS (ks_in_vp hi4) dL_law_242 ?_
  refine lv_aload_n hx hb dL_law_243 rfl (lv_at hl 0 rfl) ?_
  refine lv_iload hx hb dL_law_244 (lv_at hl 4 rfl) ?_
  refine lv_iconst (v := 5) hx hb dL_law_246 (by decide) ?_
  refine lv_iadd hx hb dL_law_247 ?_
  obtain ⟨hi5, hf⟩ := ks_guard hf
  refine va_sld hx hb hX hbl hbA hS (ks_in_vp hi5) dL_law_248 ?_
  refine lv_aload_n hx hb dL_law_249 rfl (lv_at hl 3 rfl) ?_
  obtain ⟨⟨r7, s6, o9⟩, hc8, hf⟩ := ks_bind hf
  try dsimp only at hf
  refine ks_lcall (vx_runSX (hh := [(0, 16, 19, 13), (0, 16, 23, 15), (0, 16, 27, 17)]) (As := [.ref (ad 0 0 0), .int (xs ((i + 1)).toNatClampNeg), .int (xs ((i + 2)).toNatClampNeg), .int (xs ((i + 3)).toNatClampNeg), .int (xs ((i + 4)).toNatClampNeg), .int (xs ((i + 5)).toNatClampNeg), .ref (ad 45 0 0)]) (rest := []) ⟨hx, hb, hml, hown, hts⟩ (m_L_request l hlt D cy ad En n0 hG hE o hc8) (vx_cwSW 7 hts gL_law_L_request rfl rfl rfl (by decide +kernel) ⟨(Nat.le_of_ble_eq_true rfl), (Nat.le_of_ble_eq_true rfl)⟩) ⟨ks_UL.blind, fun U hU9 hWm => ⟨rfl, ks_at hn0 hK hS hW hWm.alike hU9, hN.now hS hWm.alike hU9, hNC.moved hWm.alike⟩⟩ rfl rfl hl.1 rfl (lv_room (Nat.le_of_ble_eq_true rfl)) dL_law_250 ⟨show c9 + 2 ≤ 607239 by omega, show z9 + 12 ≤ 7274386 by omega⟩) hS (fun H locs hW hS => ?_)
  refine lv_istore (lv' := [(5, .int r7), (0, .ref b), (1, .ref (ad 0 0 0)), (2, .ref (ad 14 0 0)), (3, .ref (ad 45 0 0)), (4, .int i)]) hx hb dL_law_253 hl (by decide) rfl (fun ls hl => ?_)
  refine lv_aload_n hx hb dL_law_255 rfl (lv_at hl 3 rfl) ?_
  refine lv_aload_n hx hb dL_law_256 rfl (lv_at hl 1 rfl) ?_
  refine lv_iload hx hb dL_law_257 (lv_at hl 5 rfl) ?_
  refine lv_iconst (v := 1) hx hb dL_law_259 (by decide) ?_
  refine lv_iadd hx hb dL_law_260 ?_
  obtain ⟨hi10, hf⟩ := ks_guard hf
  refine va_sld hx hb hX hbl hbA hS (ks_in_vp hi10) dL_law_261 ?_
  refine lv_aload_n hx hb dL_law_262 rfl (lv_at hl 1 rfl) ?_
  refine lv_iload hx hb dL_law_263 (lv_at hl 5 rfl) ?_
  refine lv_iconst (v := 2) hx hb dL_law_265 (by decide) ?_
  refine lv_iadd hx hb dL_law_266 ?_
  obtain ⟨hi11, hf⟩ := ks_guard hf
  refine va_sld hx hb hX hbl hbA hS (ks_in_vp hi11) dL_law_267 ?_
  refine lv_aload_n hx hb dL_law_268 rfl (lv_at hl 1 rfl) ?_
  refine lv_iload hx hb dL_law_269 (lv_at hl 5 rfl) ?_
  refine lv_iconst (v := 3) hx hb dL_law_271 (by decide) ?_
  refine lv_iadd hx hb dL_law_272 ?_
  obtain ⟨hi12, hf⟩ := ks_guard hf
  refine va_sld hx hb hX hbl hbA hS (ks_in_vp hi12) dL_law_273 ?_
  refine lv_aload_n hx hb dL_law_274 rfl (lv_at hl 1 rfl) ?_
  refine lv_iload hx hb dL_law_275 (lv_at hl 5 rfl) ?_
  refine lv_iconst (v := 4) hx hb dL_law_277 (by decide) ?_
  refine lv_iadd hx hb dL_law_278 ?_
  obtain ⟨hi13, hf⟩ := ks_guard hf
  refine va_sld hx hb hX hbl hbA hS (ks_in_vp hi13) dL_law_279 ?_
  refine lv_aload_n hx hb dL_law_280 rfl (lv_at hl 1 rfl) ?_
  refine lv_iload hx hb dL_law_281 (lv_at hl 5 rfl) ?_
  refine lv_iconst (v := 5) hx hb dL_law_283 (by decide) ?_
  refine lv_iadd hx hb dL_law_284 ?_
  obtain ⟨hi14, hf⟩ := ks_guard hf
  refine va_sld hx hb hX hbl hbA hS (ks_in_vp hi14) dL_law_285 ?_
  obtain ⟨⟨r16, s15⟩, hc17, hf⟩ := ks_bind hf
  try dsimp only at hf
  refine ks_calli (va_runV (As := [.int (xs ((i + 1)).toNatClampNeg), .int (xs ((i + 2)).toNatClampNeg), .int (xs ((i + 3)).toNatClampNeg), .int (xs ((i + 4)).toNatClampNeg), .int (xs ((i + 5)).toNatClampNeg)]) (rest := []) ⟨hx, hb, hml, hown, hts⟩ (m_X5_request l D cy ad En n0 hG (fun k _ => hE k) o9 hc17) (cwV 5 hts gL_law_X5_request rfl rfl rfl (by decide +kernel) ⟨(Nat.le_of_ble_eq_true rfl), (Nat.le_of_ble_eq_true rfl)⟩) ⟨ks_U.blind, ks_recv hK hW (ks_v14 (i := 0) (j := 0) (hE 14)) (ks_c14 cy ad _ 0 0 _) rfl, fun U hU9 hWm => ⟨rfl, ks_at hn0 hK hS hW hWm.alike hU9⟩⟩ rfl rfl hl.1 rfl (lv_room (Nat.le_of_ble_eq_true rfl)) dL_law_286 ⟨show (c9 + 2) + 0 ≤ 607239 by omega, show (z9 + 12) + 0 ≤ 7274386 by omega⟩) hS (fun H locs hW hS => ?_)
  refine lv_istore (lv' := [(6, .int r16), (5, .int r7), (0, .ref b), (1, .ref (ad 0 0 0)), (2, .ref (ad 14 0 0)), (3, .ref (ad 45 0 0)), (4, .int i)]) hx hb dL_law_289 hl (by decide) rfl (fun ls hl => ?_)
  refine lv_aload_n hx hb dL_law_291 rfl (lv_at hl 4 rfl) ?_
  obtain ⟨⟨r19, s18⟩, hc20, hf⟩ := ks_bind hf
  try dsimp only at hf
  refine ks_calli (va_runV (As := []) (rest := []) ⟨hx, hb, hml, hown, hts⟩ (m_X5_thrown l D cy ad En n0 hG (fun k _ => hE k) o9 hc20) (cwV 0 hts gL_law_X5_thrown rfl rfl rfl (by decide +kernel) ⟨(Nat.le_of_ble_eq_true rfl), (Nat.le_of_ble_eq_true rfl)⟩) ⟨ks_U.blind, ks_recv hK hW (ks_v14 (i := 0) (j := 0) (hE 14)) (ks_c14 cy ad _ 0 0 _) rfl, fun U hU9 hWm => ⟨rfl, ks_at hn0 hK hS hW hWm.alike hU9⟩⟩ rfl rfl hl.1 rfl (lv_room (Nat.le_of_ble_eq_true rfl)) dL_law_292 ⟨show (c9 + 2) + 0 ≤ 607239 by omega, show (z9 + 12) + 0 ≤ 7274386 by omega⟩) hS (fun H locs hW hS => ?_)
  refine lv_iload hx hb dL_law_295 (lv_at hl 1 rfl) ?_
  refine lv_icmp_eq (tgt := 302) hx hb dL_law_297 (by decide) (fun c21 => ?_) (fun c21 => ?_)
  · rw [if_pos c21] at hf
    refine lv_iload hx hb dL_law_302 (lv_at hl 1 rfl) ?_
    refine lv_if_ne (tgt := 319) hx hb dL_law_304 (by decide) (fun c22 => ?_) (fun c22 => ?_)
    · rw [if_neg c22] at hf
      refine lv_goto (tgt := 1082) hx hb dL_law_319 (by decide) ?_
      refine lv_iinc (v := (i + 7)) (lv' := [(4, .int (i + 7)), (6, .int r16), (5, .int r7), (0, .ref b), (1, .ref (ad 0 0 0)), (2, .ref (ad 14 0 0)), (3, .ref (ad 45 0 0))]) hx hb dL_law_1082 hl (k := 6) rfl rfl (by decide) rfl (fun ls hl => ?_)
      refine lv_goto (tgt := 23) hx hb dL_law_1085 (by decide) ?_
      exact hk s18 o9 ((i + 7)) hf hW hS (lv_sub hl [3, 4, 5, 6, 0] rfl) (by omega) (by omega)
    · rw [if_pos c22] at hf
      refine lv_aload_n hx hb dL_law_307 rfl (lv_at hl 5 rfl) ?_
      refine lv_iconst (v := 0) hx hb dL_law_308 (by decide) ?_
      refine ks_lald (H0 := s.heap) hx hb hK hW (hE 45) dL_law_309 ?_
      refine lv_iload hx hb dL_law_310 (lv_at hl 0 rfl) ?_
      refine lv_i2l (v := r16.toInt64) hx hb dL_law_312 rfl ?_
      refine W.lcmp hx hb dL_law_313 ?_
      refine lv_if_eq (tgt := 319) hx hb dL_law_314 (by decide) (fun c23 => ?_) (fun c23 => ?_)
      · rw [if_pos c23] at hf
        refine lv_goto (tgt := 1082) hx hb dL_law_319 (by decide) ?_
        refine lv_iinc (v := (i + 7)) (lv' := [(4, .int (i + 7)), (6, .int r16), (5, .int r7), (0, .ref b), (1, .ref (ad 0 0 0)), (2, .ref (ad 14 0 0)), (3, .ref (ad 45 0 0))]) hx hb dL_law_1082 hl (k := 6) rfl rfl (by decide) rfl (fun ls hl => ?_)
        refine lv_goto (tgt := 23) hx hb dL_law_1085 (by decide) ?_
        exact hk s18 o9 ((i + 7)) hf hW hS (lv_sub hl [3, 4, 5, 6, 0] rfl) (by omega) (by omega)
      · rw [if_neg c23] at hf
        refine lv_iconst (v := 0) hx hb dL_law_317 (by decide) ?_
        exact absurd hf (by simp)
  · rw [if_neg c21] at hf
    refine lv_iconst (v := 0) hx hb dL_law_300 (by decide) ?_
    exact absurd hf (by simp)
def f_law_2 (N : Nat) (xs : Nat → Int32) (L : Nat) (k : ks_S → Int64 → Int32 → Option Bool) (σ : ks_S) (o : Int64) (i : Int32) : Option Bool :=
  (if ks_in ((i + 1)) L = true then ((f_L_take N σ o ((xs ((i + 1)).toNatClampNeg))).bind fun (r3, (s2, o5)) => (if ks_in ((i + 1)) L = true then ((f_X5_take s2 ((xs ((i + 1)).toNatClampNeg))).bind fun s7 => ((f_X5_thrown s7).bind fun (r11, s10) => (if r11 = r3 then k s10 o5 ((i + 7)) else some false))) else none)) else none)
set_option maxHeartbeats 4000000 in
set_option maxRecDepth 100000 in
theorem t_law_2 {p : Program} {l : Launch} {e : Env} {s : State} {m : MethodId} {below : List Frame} {meth : Method} {c : Code} {b L : Nat} {xs : Nat → Int32} {D : va_G} {cy : Nat → ClassId} {ad : ks_A} {En : Nat → Prop} {n0 : Nat → Prop} {N : Nat} {k : ks_S → Int64 → Int32 → Option Bool} (hlt : l.stackTraces = false) (C0 : lw_At p s m meth c b L xs) (hn0 : True) (hbA : ¬ ks_F n0 b) (hK : va_K D vwCl (ks_t cy) s) (hN : ks_N n0 s) (hNC : ks_NC s) (hG : ks_G ad En n0) (hE : ∀ k, En k) {c9 z9 : Nat} (hc9 : c9 + 8 ≤ 607239) (hz9 : z9 + 48 ≤ 7274386) (hk : ∀ (σ : ks_S) (o : Int64) (i : Int32), k σ o i = some true → ∀ {H : Heap} {locs : List Loc} {ls : Array Slot}, ks_W D cy ad En σ o H → va_S (ks_F n0) s.heap H locs → lv_has ls 7 [(0, .ref b), (1, .ref (ad 0 0 0)), (2, .ref (ad 14 0 0)), (3, .ref (ad 45 0 0)), (4, .int i)] → ∀ {c8 z8 : Nat}, c8 ≤ c9 + 8 → z8 ≤ z9 + 48 → W p l e room_1 s m #[Value.ref b] below meth c H locs c8 z8 (lw_Z below #[Value.ref b] s) (F0 m 23 ls [])) {σ : ks_S} {o : Int64} {i : Int32} (hf : f_law_2 N xs L k σ o i = some true) {H : Heap} {locs : List Loc} {ls : Array Slot} (hW : ks_W D cy ad En σ o H) (hS : va_S (ks_F n0) s.heap H locs) (hl : lv_has ls 7 [(0, .ref b), (1, .ref (ad 0 0 0)), (2, .ref (ad 14 0 0)), (3, .ref (ad 45 0 0)), (4, .int i)]) : W p l e room_1 s m #[Value.ref b] below meth c H locs c9 z9 (lw_Z below #[Value.ref b] s) (F0 m 322 ls []) := by
  obtain ⟨hx, hb, hr, hml, hown, hts0, hX, hbl, hlocks, hgv⟩ := id C0
  have hts : ∀ w ∈ wsL_law, w.before #[Value.ref b] s = true := fun w h => hts0 w (wsL_law_in w h)
  unfold f_law_2 at hf
  refine lv_aload_n hx hb dL_law_322 rfl (lv_at hl 1 rfl) ?_
  refine lv_aload_n hx hb dL_law_323 rfl (lv_at hl 0 rfl) ?_
  refine lv_iload hx hb dL_law_324 (lv_at hl 4 rfl) ?_
  refine lv_iconst (v := 1) hx hb dL_law_326 (by decide) ?_
  refine lv_iadd hx hb dL_law_327 ?_
  obtain ⟨hi1, hf⟩ := ks_guard hf
  refine va_sld hx hb hX hbl hbA hS (ks_in_vp hi1) dL_law_328 ?_
  obtain ⟨⟨r3, s2, o5⟩, hc4, hf⟩ := ks_bind hf
  try dsimp only at hf
  refine ks_lcall (vx_runSX (hh := [(0, 5, 8, 13), (0, 5, 11, 15)]) (As := [.ref (ad 0 0 0), .int (xs ((i + 1)).toNatClampNeg)]) (rest := []) ⟨hx, hb, hml, hown, hts⟩ (m_L_take l hlt D cy ad En n0 hG hE o hc4) (vx_cwSW 2 hts gL_law_L_take rfl rfl rfl (by decide +kernel) ⟨(Nat.le_of_ble_eq_true rfl), (Nat.le_of_ble_eq_true rfl)⟩) ⟨ks_UL.blind, fun U hU9 hWm => ⟨rfl, ks_at hn0 hK hS hW hWm.alike hU9, hN.now hS hWm.alike hU9, hNC.moved hWm.alike⟩⟩ rfl rfl hl.1 rfl (lv_room (Nat.le_of_ble_eq_true rfl)) dL_law_329 ⟨show c9 + 2 ≤ 607239 by omega, show z9 + 12 ≤ 7274386 by omega⟩) hS (fun H locs hW hS => ?_)
  refine lv_istore (lv' := [(5, .int r3), (0, .ref b), (1, .ref (ad 0 0 0)), (2, .ref (ad 14 0 0)), (3, .ref (ad 45 0 0)), (4, .int i)]) hx hb dL_law_332 hl (by decide) rfl (fun ls hl => ?_)
  refine lv_aload_n hx hb dL_law_334 rfl (lv_at hl 3 rfl) ?_
  refine lv_aload_n hx hb dL_law_335 rfl (lv_at hl 1 rfl) ?_
  refine lv_iload hx hb dL_law_336 (lv_at hl 5 rfl) ?_
  refine lv_iconst (v := 1) hx hb dL_law_338 (by decide) ?_
  refine lv_iadd hx hb dL_law_339 ?_
  obtain ⟨hi6, hf⟩ := ks_guard hf
  refine va_sld hx hb hX hbl hbA hS (ks_in_vp hi6) dL_law_340 ?_
  obtain ⟨s7, hc9, hf⟩ := ks_bind hf
  try dsimp only at hf
  refine ks_callv (va_runV (As := [.int (xs ((i + 1)).toNatClampNeg)]) (rest := []) ⟨hx, hb, hml, hown, hts⟩ (m_X5_take l D cy ad En n0 hG (fun k _ => hE k) o5 hc9) (cwV 1 hts gL_law_X5_take rfl rfl rfl (by decide +kernel) ⟨(Nat.le_of_ble_eq_true rfl), (Nat.le_of_ble_eq_true rfl)⟩) ⟨ks_U.blind, ks_recv hK hW (ks_v14 (i := 0) (j := 0) (hE 14)) (ks_c14 cy ad _ 0 0 _) rfl, fun U hU9 hWm => ⟨rfl, ks_at hn0 hK hS hW hWm.alike hU9⟩⟩ rfl rfl hl.1 rfl (lv_room (Nat.le_of_ble_eq_true rfl)) dL_law_341 ⟨show (c9 + 2) + 0 ≤ 607239 by omega, show (z9 + 12) + 0 ≤ 7274386 by omega⟩) hS (fun H locs hW hS => ?_)
  refine lv_aload_n hx hb dL_law_344 rfl (lv_at hl 3 rfl) ?_
  obtain ⟨⟨r11, s10⟩, hc12, hf⟩ := ks_bind hf
  try dsimp only at hf
  refine ks_calli (va_runV (As := []) (rest := []) ⟨hx, hb, hml, hown, hts⟩ (m_X5_thrown l D cy ad En n0 hG (fun k _ => hE k) o5 hc12) (cwV 0 hts gL_law_X5_thrown rfl rfl rfl (by decide +kernel) ⟨(Nat.le_of_ble_eq_true rfl), (Nat.le_of_ble_eq_true rfl)⟩) ⟨ks_U.blind, ks_recv hK hW (ks_v14 (i := 0) (j := 0) (hE 14)) (ks_c14 cy ad _ 0 0 _) rfl, fun U hU9 hWm => ⟨rfl, ks_at hn0 hK hS hW hWm.alike hU9⟩⟩ rfl rfl hl.1 rfl (lv_room (Nat.le_of_ble_eq_true rfl)) dL_law_345 ⟨show (c9 + 2) + 0 ≤ 607239 by omega, show (z9 + 12) + 0 ≤ 7274386 by omega⟩) hS (fun H locs hW hS => ?_)
  refine lv_iload hx hb dL_law_348 (lv_at hl 0 rfl) ?_
  refine lv_icmp_eq (tgt := 355) hx hb dL_law_350 (by decide) (fun c13 => ?_) (fun c13 => ?_)
  · rw [if_pos c13] at hf
    refine lv_goto (tgt := 1082) hx hb dL_law_355 (by decide) ?_
    refine lv_iinc (v := (i + 7)) (lv' := [(4, .int (i + 7)), (5, .int r3), (0, .ref b), (1, .ref (ad 0 0 0)), (2, .ref (ad 14 0 0)), (3, .ref (ad 45 0 0))]) hx hb dL_law_1082 hl (k := 5) rfl rfl (by decide) rfl (fun ls hl => ?_)
    refine lv_goto (tgt := 23) hx hb dL_law_1085 (by decide) ?_
    exact hk s10 o5 ((i + 7)) hf hW hS (lv_sub hl [2, 3, 4, 5, 0] rfl) (by omega) (by omega)
  · rw [if_neg c13] at hf
    refine lv_iconst (v := 0) hx hb dL_law_353 (by decide) ?_
    exact absurd hf (by simp)
def f_law_3 (N : Nat) (xs : Nat → Int32) (L : Nat) (k : ks_S → Int64 → Int32 → Option Bool) (σ : ks_S) (o : Int64) (i : Int32) : Option Bool :=
  (if ks_in ((i + 1)) L = true then ((f_L_group σ o ((xs ((i + 1)).toNatClampNeg))).bind fun (r3, (s2, o5)) => (if ks_in ((i + 1)) L = true then ((f_X5_group N s2 ((xs ((i + 1)).toNatClampNeg))).bind fun (r8, s7) => ((f_X5_thrown s7).bind fun (r11, s10) => (if r11 = r3 then (if r3 = 0 then (if ((lg_cmp o5 r8.toInt64)) = 0 then k s10 o5 ((i + 7)) else some false) else k s10 o5 ((i + 7))) else some false))) else none)) else none)
set_option maxHeartbeats 4000000 in
set_option maxRecDepth 100000 in
theorem t_law_3 {p : Program} {l : Launch} {e : Env} {s : State} {m : MethodId} {below : List Frame} {meth : Method} {c : Code} {b L : Nat} {xs : Nat → Int32} {D : va_G} {cy : Nat → ClassId} {ad : ks_A} {En : Nat → Prop} {n0 : Nat → Prop} {N : Nat} {k : ks_S → Int64 → Int32 → Option Bool} (hlt : l.stackTraces = false) (C0 : lw_At p s m meth c b L xs) (hn0 : True) (hbA : ¬ ks_F n0 b) (hK : va_K D vwCl (ks_t cy) s) (hN : ks_N n0 s) (hNC : ks_NC s) (hG : ks_G ad En n0) (hE : ∀ k, En k) {c9 z9 : Nat} (hc9 : c9 + 8 ≤ 607239) (hz9 : z9 + 48 ≤ 7274386) (hk : ∀ (σ : ks_S) (o : Int64) (i : Int32), k σ o i = some true → ∀ {H : Heap} {locs : List Loc} {ls : Array Slot}, ks_W D cy ad En σ o H → va_S (ks_F n0) s.heap H locs → lv_has ls 7 [(0, .ref b), (1, .ref (ad 0 0 0)), (2, .ref (ad 14 0 0)), (3, .ref (ad 45 0 0)), (4, .int i)] → ∀ {c8 z8 : Nat}, c8 ≤ c9 + 8 → z8 ≤ z9 + 48 → W p l e room_1 s m #[Value.ref b] below meth c H locs c8 z8 (lw_Z below #[Value.ref b] s) (F0 m 23 ls [])) {σ : ks_S} {o : Int64} {i : Int32} (hf : f_law_3 N xs L k σ o i = some true) {H : Heap} {locs : List Loc} {ls : Array Slot} (hW : ks_W D cy ad En σ o H) (hS : va_S (ks_F n0) s.heap H locs) (hl : lv_has ls 7 [(0, .ref b), (1, .ref (ad 0 0 0)), (2, .ref (ad 14 0 0)), (3, .ref (ad 45 0 0)), (4, .int i)]) : W p l e room_1 s m #[Value.ref b] below meth c H locs c9 z9 (lw_Z below #[Value.ref b] s) (F0 m 358 ls []) := by
  obtain ⟨hx, hb, hr, hml, hown, hts0, hX, hbl, hlocks, hgv⟩ := id C0
  have hts : ∀ w ∈ wsL_law, w.before #[Value.ref b] s = true := fun w h => hts0 w (wsL_law_in w h)
  unfold f_law_3 at hf
  refine lv_aload_n hx hb dL_law_358 rfl (lv_at hl 1 rfl) ?_
  refine lv_aload_n hx hb dL_law_359 rfl (lv_at hl 0 rfl) ?_
  refine lv_iload hx hb dL_law_360 (lv_at hl 4 rfl) ?_
  refine lv_iconst (v := 1) hx hb dL_law_362 (by decide) ?_
  refine lv_iadd hx hb dL_law_363 ?_
  obtain ⟨hi1, hf⟩ := ks_guard hf
  refine va_sld hx hb hX hbl hbA hS (ks_in_vp hi1) dL_law_364 ?_
  refine lv_aload_n hx hb dL_law_365 rfl (lv_at hl 3 rfl) ?_
  obtain ⟨⟨r3, s2, o5⟩, hc4, hf⟩ := ks_bind hf
  try dsimp only at hf
  refine ks_lcall (vx_runSX (hh := [(0, 9, 12, 13)]) (As := [.ref (ad 0 0 0), .int (xs ((i + 1)).toNatClampNeg), .ref (ad 45 0 0)]) (rest := []) ⟨hx, hb, hml, hown, hts⟩ (m_L_group l hlt D cy ad En n0 hG hE o hc4) (vx_cwSW 3 hts gL_law_L_group rfl rfl rfl (by decide +kernel) ⟨(Nat.le_of_ble_eq_true rfl), (Nat.le_of_ble_eq_true rfl)⟩) ⟨ks_UL.blind, fun U hU9 hWm => ⟨rfl, ks_at hn0 hK hS hW hWm.alike hU9, hN.now hS hWm.alike hU9, hNC.moved hWm.alike⟩⟩ rfl rfl hl.1 rfl (lv_room (Nat.le_of_ble_eq_true rfl)) dL_law_366 ⟨show c9 + 1 ≤ 607239 by omega, show z9 + 6 ≤ 7274386 by omega⟩) hS (fun H locs hW hS => ?_)
  refine lv_istore (lv' := [(5, .int r3), (0, .ref b), (1, .ref (ad 0 0 0)), (2, .ref (ad 14 0 0)), (3, .ref (ad 45 0 0)), (4, .int i)]) hx hb dL_law_369 hl (by decide) rfl (fun ls hl => ?_)
  refine lv_aload_n hx hb dL_law_371 rfl (lv_at hl 3 rfl) ?_
  refine lv_aload_n hx hb dL_law_372 rfl (lv_at hl 1 rfl) ?_
  refine lv_iload hx hb dL_law_373 (lv_at hl 5 rfl) ?_
  refine lv_iconst (v := 1) hx hb dL_law_375 (by decide) ?_
  refine lv_iadd hx hb dL_law_376 ?_
  obtain ⟨hi6, hf⟩ := ks_guard hf
  refine va_sld hx hb hX hbl hbA hS (ks_in_vp hi6) dL_law_377 ?_
  obtain ⟨⟨r8, s7⟩, hc9, hf⟩ := ks_bind hf
  try dsimp only at hf
  refine ks_calli (va_runV (As := [.int (xs ((i + 1)).toNatClampNeg)]) (rest := []) ⟨hx, hb, hml, hown, hts⟩ (m_X5_group l D cy ad En n0 hG (fun k _ => hE k) o5 hc9) (cwV 1 hts gL_law_X5_group rfl rfl rfl (by decide +kernel) ⟨(Nat.le_of_ble_eq_true rfl), (Nat.le_of_ble_eq_true rfl)⟩) ⟨ks_U.blind, ks_recv hK hW (ks_v14 (i := 0) (j := 0) (hE 14)) (ks_c14 cy ad _ 0 0 _) rfl, fun U hU9 hWm => ⟨rfl, ks_at hn0 hK hS hW hWm.alike hU9⟩⟩ rfl rfl hl.1 rfl (lv_room (Nat.le_of_ble_eq_true rfl)) dL_law_378 ⟨show (c9 + 1) + 0 ≤ 607239 by omega, show (z9 + 6) + 0 ≤ 7274386 by omega⟩) hS (fun H locs hW hS => ?_)
  refine lv_istore (lv' := [(6, .int r8), (5, .int r3), (0, .ref b), (1, .ref (ad 0 0 0)), (2, .ref (ad 14 0 0)), (3, .ref (ad 45 0 0)), (4, .int i)]) hx hb dL_law_381 hl (by decide) rfl (fun ls hl => ?_)
  refine lv_aload_n hx hb dL_law_383 rfl (lv_at hl 4 rfl) ?_
  obtain ⟨⟨r11, s10⟩, hc12, hf⟩ := ks_bind hf
  try dsimp only at hf
  refine ks_calli (va_runV (As := []) (rest := []) ⟨hx, hb, hml, hown, hts⟩ (m_X5_thrown l D cy ad En n0 hG (fun k _ => hE k) o5 hc12) (cwV 0 hts gL_law_X5_thrown rfl rfl rfl (by decide +kernel) ⟨(Nat.le_of_ble_eq_true rfl), (Nat.le_of_ble_eq_true rfl)⟩) ⟨ks_U.blind, ks_recv hK hW (ks_v14 (i := 0) (j := 0) (hE 14)) (ks_c14 cy ad _ 0 0 _) rfl, fun U hU9 hWm => ⟨rfl, ks_at hn0 hK hS hW hWm.alike hU9⟩⟩ rfl rfl hl.1 rfl (lv_room (Nat.le_of_ble_eq_true rfl)) dL_law_384 ⟨show (c9 + 1) + 0 ≤ 607239 by omega, show (z9 + 6) + 0 ≤ 7274386 by omega⟩) hS (fun H locs hW hS => ?_)
  refine lv_iload hx hb dL_law_387 (lv_at hl 1 rfl) ?_
  refine lv_icmp_eq (tgt := 394) hx hb dL_law_389 (by decide) (fun c13 => ?_) (fun c13 => ?_)
  · rw [if_pos c13] at hf
    refine lv_iload hx hb dL_law_394 (lv_at hl 1 rfl) ?_
    refine lv_if_ne (tgt := 411) hx hb dL_law_396 (by decide) (fun c14 => ?_) (fun c14 => ?_)
    · rw [if_neg c14] at hf
      refine lv_goto (tgt := 1082) hx hb dL_law_411 (by decide) ?_
      refine lv_iinc (v := (i + 7)) (lv' := [(4, .int (i + 7)), (6, .int r8), (5, .int r3), (0, .ref b), (1, .ref (ad 0 0 0)), (2, .ref (ad 14 0 0)), (3, .ref (ad 45 0 0))]) hx hb dL_law_1082 hl (k := 6) rfl rfl (by decide) rfl (fun ls hl => ?_)
      refine lv_goto (tgt := 23) hx hb dL_law_1085 (by decide) ?_
      exact hk s10 o5 ((i + 7)) hf hW hS (lv_sub hl [3, 4, 5, 6, 0] rfl) (by omega) (by omega)
    · rw [if_pos c14] at hf
      refine lv_aload_n hx hb dL_law_399 rfl (lv_at hl 5 rfl) ?_
      refine lv_iconst (v := 0) hx hb dL_law_400 (by decide) ?_
      refine ks_lald (H0 := s.heap) hx hb hK hW (hE 45) dL_law_401 ?_
      refine lv_iload hx hb dL_law_402 (lv_at hl 0 rfl) ?_
      refine lv_i2l (v := r8.toInt64) hx hb dL_law_404 rfl ?_
      refine W.lcmp hx hb dL_law_405 ?_
      refine lv_if_eq (tgt := 411) hx hb dL_law_406 (by decide) (fun c15 => ?_) (fun c15 => ?_)
      · rw [if_pos c15] at hf
        refine lv_goto (tgt := 1082) hx hb dL_law_411 (by decide) ?_
        refine lv_iinc (v := (i + 7)) (lv' := [(4, .int (i + 7)), (6, .int r8), (5, .int r3), (0, .ref b), (1, .ref (ad 0 0 0)), (2, .ref (ad 14 0 0)), (3, .ref (ad 45 0 0))]) hx hb dL_law_1082 hl (k := 6) rfl rfl (by decide) rfl (fun ls hl => ?_)
        refine lv_goto (tgt := 23) hx hb dL_law_1085 (by decide) ?_
        exact hk s10 o5 ((i + 7)) hf hW hS (lv_sub hl [3, 4, 5, 6, 0] rfl) (by omega) (by omega)
      · rw [if_neg c15] at hf
        refine lv_iconst (v := 0) hx hb dL_law_409 (by decide) ?_
        exact absurd hf (by simp)
  · rw [if_neg c13] at hf
    refine lv_iconst (v := 0) hx hb dL_law_392 (by decide) ?_
    exact absurd hf (by simp)
def f_law_4 (N : Nat) (xs : Nat → Int32) (L : Nat) (k : ks_S → Int64 → Int32 → Option Bool) (σ : ks_S) (o : Int64) (i : Int32) : Option Bool :=
  (if ks_in ((i + 1)) L = true then (if ks_in ((i + 2)) L = true then ((f_L_spin σ o ((xs ((i + 1)).toNatClampNeg)) ((xs ((i + 2)).toNatClampNeg))).bind fun (r4, (s3, o6)) => (if ks_in ((i + 1)) L = true then (if ks_in ((i + 2)) L = true then ((f_X5_spin N s3 ((xs ((i + 1)).toNatClampNeg)) ((xs ((i + 2)).toNatClampNeg))).bind fun (r10, s9) => ((f_X5_thrown s9).bind fun (r13, s12) => (if r13 = r4 then (if r4 = 0 then (if ((lg_cmp o6 r10.toInt64)) = 0 then k s12 o6 ((i + 7)) else some false) else k s12 o6 ((i + 7))) else some false))) else none) else none)) else none) else none)
set_option maxHeartbeats 4000000 in
set_option maxRecDepth 100000 in
theorem t_law_4 {p : Program} {l : Launch} {e : Env} {s : State} {m : MethodId} {below : List Frame} {meth : Method} {c : Code} {b L : Nat} {xs : Nat → Int32} {D : va_G} {cy : Nat → ClassId} {ad : ks_A} {En : Nat → Prop} {n0 : Nat → Prop} {N : Nat} {k : ks_S → Int64 → Int32 → Option Bool} (hlt : l.stackTraces = false) (C0 : lw_At p s m meth c b L xs) (hn0 : True) (hbA : ¬ ks_F n0 b) (hK : va_K D vwCl (ks_t cy) s) (hN : ks_N n0 s) (hNC : ks_NC s) (hG : ks_G ad En n0) (hE : ∀ k, En k) {c9 z9 : Nat} (hc9 : c9 + 8 ≤ 607239) (hz9 : z9 + 48 ≤ 7274386) (hk : ∀ (σ : ks_S) (o : Int64) (i : Int32), k σ o i = some true → ∀ {H : Heap} {locs : List Loc} {ls : Array Slot}, ks_W D cy ad En σ o H → va_S (ks_F n0) s.heap H locs → lv_has ls 7 [(0, .ref b), (1, .ref (ad 0 0 0)), (2, .ref (ad 14 0 0)), (3, .ref (ad 45 0 0)), (4, .int i)] → ∀ {c8 z8 : Nat}, c8 ≤ c9 + 8 → z8 ≤ z9 + 48 → W p l e room_1 s m #[Value.ref b] below meth c H locs c8 z8 (lw_Z below #[Value.ref b] s) (F0 m 23 ls [])) {σ : ks_S} {o : Int64} {i : Int32} (hf : f_law_4 N xs L k σ o i = some true) {H : Heap} {locs : List Loc} {ls : Array Slot} (hW : ks_W D cy ad En σ o H) (hS : va_S (ks_F n0) s.heap H locs) (hl : lv_has ls 7 [(0, .ref b), (1, .ref (ad 0 0 0)), (2, .ref (ad 14 0 0)), (3, .ref (ad 45 0 0)), (4, .int i)]) : W p l e room_1 s m #[Value.ref b] below meth c H locs c9 z9 (lw_Z below #[Value.ref b] s) (F0 m 414 ls []) := by
  obtain ⟨hx, hb, hr, hml, hown, hts0, hX, hbl, hlocks, hgv⟩ := id C0
  have hts : ∀ w ∈ wsL_law, w.before #[Value.ref b] s = true := fun w h => hts0 w (wsL_law_in w h)
  unfold f_law_4 at hf
  refine lv_aload_n hx hb dL_law_414 rfl (lv_at hl 1 rfl) ?_
  refine lv_aload_n hx hb dL_law_415 rfl (lv_at hl 0 rfl) ?_
  refine lv_iload hx hb dL_law_416 (lv_at hl 4 rfl) ?_
  refine lv_iconst (v := 1) hx hb dL_law_418 (by decide) ?_
  refine lv_iadd hx hb dL_law_419 ?_
  obtain ⟨hi1, hf⟩ := ks_guard hf
  refine va_sld hx hb hX hbl hbA hS (ks_in_vp hi1) dL_law_420 ?_
  refine lv_aload_n hx hb dL_law_421 rfl (lv_at hl 0 rfl) ?_
  refine lv_iload hx hb dL_law_422 (lv_at hl 4 rfl) ?_
  refine lv_iconst (v := 2) hx hb dL_law_424 (by decide) ?_
  refine lv_iadd hx hb dL_law_425 ?_
  obtain ⟨hi2, hf⟩ := ks_guard hf
  refine va_sld hx hb hX hbl hbA hS (ks_in_vp hi2) dL_law_426 ?_
  refine lv_aload_n hx hb dL_law_427 rfl (lv_at hl 3 rfl) ?_
  obtain ⟨⟨r4, s3, o6⟩, hc5, hf⟩ := ks_bind hf
  try dsimp only at hf
  refine ks_lcall (vx_runSX (hh := [(0, 10, 13, 13)]) (As := [.ref (ad 0 0 0), .int (xs ((i + 1)).toNatClampNeg), .int (xs ((i + 2)).toNatClampNeg), .ref (ad 45 0 0)]) (rest := []) ⟨hx, hb, hml, hown, hts⟩ (m_L_spin l hlt D cy ad En n0 hG hE o hc5) (vx_cwSW 4 hts gL_law_L_spin rfl rfl rfl (by decide +kernel) ⟨(Nat.le_of_ble_eq_true rfl), (Nat.le_of_ble_eq_true rfl)⟩) ⟨ks_UL.blind, fun U hU9 hWm => ⟨rfl, ks_at hn0 hK hS hW hWm.alike hU9, hN.now hS hWm.alike hU9, hNC.moved hWm.alike⟩⟩ rfl rfl hl.1 rfl (lv_room (Nat.le_of_ble_eq_true rfl)) dL_law_428 ⟨show c9 + 2 ≤ 607239 by omega, show z9 + 12 ≤ 7274386 by omega⟩) hS (fun H locs hW hS => ?_)
  refine lv_istore (lv' := [(5, .int r4), (0, .ref b), (1, .ref (ad 0 0 0)), (2, .ref (ad 14 0 0)), (3, .ref (ad 45 0 0)), (4, .int i)]) hx hb dL_law_431 hl (by decide) rfl (fun ls hl => ?_)
  refine lv_aload_n hx hb dL_law_433 rfl (lv_at hl 3 rfl) ?_
  refine lv_aload_n hx hb dL_law_434 rfl (lv_at hl 1 rfl) ?_
  refine lv_iload hx hb dL_law_435 (lv_at hl 5 rfl) ?_
  refine lv_iconst (v := 1) hx hb dL_law_437 (by decide) ?_
  refine lv_iadd hx hb dL_law_438 ?_
  obtain ⟨hi7, hf⟩ := ks_guard hf
  refine va_sld hx hb hX hbl hbA hS (ks_in_vp hi7) dL_law_439 ?_
  refine lv_aload_n hx hb dL_law_440 rfl (lv_at hl 1 rfl) ?_
  refine lv_iload hx hb dL_law_441 (lv_at hl 5 rfl) ?_
  refine lv_iconst (v := 2) hx hb dL_law_443 (by decide) ?_
  refine lv_iadd hx hb dL_law_444 ?_
  obtain ⟨hi8, hf⟩ := ks_guard hf
  refine va_sld hx hb hX hbl hbA hS (ks_in_vp hi8) dL_law_445 ?_
  obtain ⟨⟨r10, s9⟩, hc11, hf⟩ := ks_bind hf
  try dsimp only at hf
  refine ks_calli (va_runV (As := [.int (xs ((i + 1)).toNatClampNeg), .int (xs ((i + 2)).toNatClampNeg)]) (rest := []) ⟨hx, hb, hml, hown, hts⟩ (m_X5_spin l D cy ad En n0 hG (fun k _ => hE k) o6 hc11) (cwV 2 hts gL_law_X5_spin rfl rfl rfl (by decide +kernel) ⟨(Nat.le_of_ble_eq_true rfl), (Nat.le_of_ble_eq_true rfl)⟩) ⟨ks_U.blind, ks_recv hK hW (ks_v14 (i := 0) (j := 0) (hE 14)) (ks_c14 cy ad _ 0 0 _) rfl, fun U hU9 hWm => ⟨rfl, ks_at hn0 hK hS hW hWm.alike hU9⟩⟩ rfl rfl hl.1 rfl (lv_room (Nat.le_of_ble_eq_true rfl)) dL_law_446 ⟨show (c9 + 2) + 0 ≤ 607239 by omega, show (z9 + 12) + 0 ≤ 7274386 by omega⟩) hS (fun H locs hW hS => ?_)
  refine lv_istore (lv' := [(6, .int r10), (5, .int r4), (0, .ref b), (1, .ref (ad 0 0 0)), (2, .ref (ad 14 0 0)), (3, .ref (ad 45 0 0)), (4, .int i)]) hx hb dL_law_449 hl (by decide) rfl (fun ls hl => ?_)
  refine lv_aload_n hx hb dL_law_451 rfl (lv_at hl 4 rfl) ?_
  obtain ⟨⟨r13, s12⟩, hc14, hf⟩ := ks_bind hf
  try dsimp only at hf
  refine ks_calli (va_runV (As := []) (rest := []) ⟨hx, hb, hml, hown, hts⟩ (m_X5_thrown l D cy ad En n0 hG (fun k _ => hE k) o6 hc14) (cwV 0 hts gL_law_X5_thrown rfl rfl rfl (by decide +kernel) ⟨(Nat.le_of_ble_eq_true rfl), (Nat.le_of_ble_eq_true rfl)⟩) ⟨ks_U.blind, ks_recv hK hW (ks_v14 (i := 0) (j := 0) (hE 14)) (ks_c14 cy ad _ 0 0 _) rfl, fun U hU9 hWm => ⟨rfl, ks_at hn0 hK hS hW hWm.alike hU9⟩⟩ rfl rfl hl.1 rfl (lv_room (Nat.le_of_ble_eq_true rfl)) dL_law_452 ⟨show (c9 + 2) + 0 ≤ 607239 by omega, show (z9 + 12) + 0 ≤ 7274386 by omega⟩) hS (fun H locs hW hS => ?_)
  refine lv_iload hx hb dL_law_455 (lv_at hl 1 rfl) ?_
  refine lv_icmp_eq (tgt := 462) hx hb dL_law_457 (by decide) (fun c15 => ?_) (fun c15 => ?_)
  · rw [if_pos c15] at hf
    refine lv_iload hx hb dL_law_462 (lv_at hl 1 rfl) ?_
    refine lv_if_ne (tgt := 479) hx hb dL_law_464 (by decide) (fun c16 => ?_) (fun c16 => ?_)
    · rw [if_neg c16] at hf
      refine lv_goto (tgt := 1082) hx hb dL_law_479 (by decide) ?_
      refine lv_iinc (v := (i + 7)) (lv' := [(4, .int (i + 7)), (6, .int r10), (5, .int r4), (0, .ref b), (1, .ref (ad 0 0 0)), (2, .ref (ad 14 0 0)), (3, .ref (ad 45 0 0))]) hx hb dL_law_1082 hl (k := 6) rfl rfl (by decide) rfl (fun ls hl => ?_)
      refine lv_goto (tgt := 23) hx hb dL_law_1085 (by decide) ?_
      exact hk s12 o6 ((i + 7)) hf hW hS (lv_sub hl [3, 4, 5, 6, 0] rfl) (by omega) (by omega)
    · rw [if_pos c16] at hf
      refine lv_aload_n hx hb dL_law_467 rfl (lv_at hl 5 rfl) ?_
      refine lv_iconst (v := 0) hx hb dL_law_468 (by decide) ?_
      refine ks_lald (H0 := s.heap) hx hb hK hW (hE 45) dL_law_469 ?_
      refine lv_iload hx hb dL_law_470 (lv_at hl 0 rfl) ?_
      refine lv_i2l (v := r10.toInt64) hx hb dL_law_472 rfl ?_
      refine W.lcmp hx hb dL_law_473 ?_
      refine lv_if_eq (tgt := 479) hx hb dL_law_474 (by decide) (fun c17 => ?_) (fun c17 => ?_)
      · rw [if_pos c17] at hf
        refine lv_goto (tgt := 1082) hx hb dL_law_479 (by decide) ?_
        refine lv_iinc (v := (i + 7)) (lv' := [(4, .int (i + 7)), (6, .int r10), (5, .int r4), (0, .ref b), (1, .ref (ad 0 0 0)), (2, .ref (ad 14 0 0)), (3, .ref (ad 45 0 0))]) hx hb dL_law_1082 hl (k := 6) rfl rfl (by decide) rfl (fun ls hl => ?_)
        refine lv_goto (tgt := 23) hx hb dL_law_1085 (by decide) ?_
        exact hk s12 o6 ((i + 7)) hf hW hS (lv_sub hl [3, 4, 5, 6, 0] rfl) (by omega) (by omega)
      · rw [if_neg c17] at hf
        refine lv_iconst (v := 0) hx hb dL_law_477 (by decide) ?_
        exact absurd hf (by simp)
  · rw [if_neg c15] at hf
    refine lv_iconst (v := 0) hx hb dL_law_460 (by decide) ?_
    exact absurd hf (by simp)
def f_law_5 (N : Nat) (xs : Nat → Int32) (L : Nat) (k : ks_S → Int64 → Int32 → Option Bool) (σ : ks_S) (o : Int64) (i : Int32) : Option Bool :=
  (if ks_in ((i + 1)) L = true then (if ks_in ((i + 2)) L = true then ((f_L_bound N σ o ((xs ((i + 1)).toNatClampNeg)) ((xs ((i + 2)).toNatClampNeg))).bind fun (r4, (s3, o6)) => (if ks_in ((i + 1)) L = true then (if ks_in ((i + 2)) L = true then ((f_X5_bound N s3 ((xs ((i + 1)).toNatClampNeg)) ((xs ((i + 2)).toNatClampNeg))).bind fun (r10, s9) => ((f_X5_thrown s9).bind fun (r13, s12) => (if r13 = r4 then (if r4 = 0 then (if ((lg_cmp o6 r10.toInt64)) = 0 then k s12 o6 ((i + 7)) else some false) else k s12 o6 ((i + 7))) else some false))) else none) else none)) else none) else none)
set_option maxHeartbeats 4000000 in
set_option maxRecDepth 100000 in
theorem t_law_5 {p : Program} {l : Launch} {e : Env} {s : State} {m : MethodId} {below : List Frame} {meth : Method} {c : Code} {b L : Nat} {xs : Nat → Int32} {D : va_G} {cy : Nat → ClassId} {ad : ks_A} {En : Nat → Prop} {n0 : Nat → Prop} {N : Nat} {k : ks_S → Int64 → Int32 → Option Bool} (hlt : l.stackTraces = false) (C0 : lw_At p s m meth c b L xs) (hn0 : True) (hbA : ¬ ks_F n0 b) (hK : va_K D vwCl (ks_t cy) s) (hN : ks_N n0 s) (hNC : ks_NC s) (hG : ks_G ad En n0) (hE : ∀ k, En k) {c9 z9 : Nat} (hc9 : c9 + 8 ≤ 607239) (hz9 : z9 + 48 ≤ 7274386) (hk : ∀ (σ : ks_S) (o : Int64) (i : Int32), k σ o i = some true → ∀ {H : Heap} {locs : List Loc} {ls : Array Slot}, ks_W D cy ad En σ o H → va_S (ks_F n0) s.heap H locs → lv_has ls 7 [(0, .ref b), (1, .ref (ad 0 0 0)), (2, .ref (ad 14 0 0)), (3, .ref (ad 45 0 0)), (4, .int i)] → ∀ {c8 z8 : Nat}, c8 ≤ c9 + 8 → z8 ≤ z9 + 48 → W p l e room_1 s m #[Value.ref b] below meth c H locs c8 z8 (lw_Z below #[Value.ref b] s) (F0 m 23 ls [])) {σ : ks_S} {o : Int64} {i : Int32} (hf : f_law_5 N xs L k σ o i = some true) {H : Heap} {locs : List Loc} {ls : Array Slot} (hW : ks_W D cy ad En σ o H) (hS : va_S (ks_F n0) s.heap H locs) (hl : lv_has ls 7 [(0, .ref b), (1, .ref (ad 0 0 0)), (2, .ref (ad 14 0 0)), (3, .ref (ad 45 0 0)), (4, .int i)]) : W p l e room_1 s m #[Value.ref b] below meth c H locs c9 z9 (lw_Z below #[Value.ref b] s) (F0 m 482 ls []) := by
  obtain ⟨hx, hb, hr, hml, hown, hts0, hX, hbl, hlocks, hgv⟩ := id C0
  have hts : ∀ w ∈ wsL_law, w.before #[Value.ref b] s = true := fun w h => hts0 w (wsL_law_in w h)
  unfold f_law_5 at hf
  refine lv_aload_n hx hb dL_law_482 rfl (lv_at hl 1 rfl) ?_
  refine lv_aload_n hx hb dL_law_483 rfl (lv_at hl 0 rfl) ?_
  refine lv_iload hx hb dL_law_484 (lv_at hl 4 rfl) ?_
  refine lv_iconst (v := 1) hx hb dL_law_486 (by decide) ?_
  refine lv_iadd hx hb dL_law_487 ?_
  obtain ⟨hi1, hf⟩ := ks_guard hf
  refine va_sld hx hb hX hbl hbA hS (ks_in_vp hi1) dL_law_488 ?_
  refine lv_aload_n hx hb dL_law_489 rfl (lv_at hl 0 rfl) ?_
  refine lv_iload hx hb dL_law_490 (lv_at hl 4 rfl) ?_
  refine lv_iconst (v := 2) hx hb dL_law_492 (by decide) ?_
  refine lv_iadd hx hb dL_law_493 ?_
  obtain ⟨hi2, hf⟩ := ks_guard hf
  refine va_sld hx hb hX hbl hbA hS (ks_in_vp hi2) dL_law_494 ?_
  refine lv_aload_n hx hb dL_law_495 rfl (lv_at hl 3 rfl) ?_
  obtain ⟨⟨r4, s3, o6⟩, hc5, hf⟩ := ks_bind hf
  try dsimp only at hf
  refine ks_lcall (vx_runSX (hh := [(0, 10, 13, 13), (0, 10, 17, 17)]) (As := [.ref (ad 0 0 0), .int (xs ((i + 1)).toNatClampNeg), .int (xs ((i + 2)).toNatClampNeg), .ref (ad 45 0 0)]) (rest := []) ⟨hx, hb, hml, hown, hts⟩ (m_L_bound l hlt D cy ad En n0 hG hE o hc5) (vx_cwSW 4 hts gL_law_L_bound rfl rfl rfl (by decide +kernel) ⟨(Nat.le_of_ble_eq_true rfl), (Nat.le_of_ble_eq_true rfl)⟩) ⟨ks_UL.blind, fun U hU9 hWm => ⟨rfl, ks_at hn0 hK hS hW hWm.alike hU9, hN.now hS hWm.alike hU9, hNC.moved hWm.alike⟩⟩ rfl rfl hl.1 rfl (lv_room (Nat.le_of_ble_eq_true rfl)) dL_law_496 ⟨show c9 + 2 ≤ 607239 by omega, show z9 + 12 ≤ 7274386 by omega⟩) hS (fun H locs hW hS => ?_)
  refine lv_istore (lv' := [(5, .int r4), (0, .ref b), (1, .ref (ad 0 0 0)), (2, .ref (ad 14 0 0)), (3, .ref (ad 45 0 0)), (4, .int i)]) hx hb dL_law_499 hl (by decide) rfl (fun ls hl => ?_)
  refine lv_aload_n hx hb dL_law_501 rfl (lv_at hl 3 rfl) ?_
  refine lv_aload_n hx hb dL_law_502 rfl (lv_at hl 1 rfl) ?_
  refine lv_iload hx hb dL_law_503 (lv_at hl 5 rfl) ?_
  refine lv_iconst (v := 1) hx hb dL_law_505 (by decide) ?_
  refine lv_iadd hx hb dL_law_506 ?_
  obtain ⟨hi7, hf⟩ := ks_guard hf
  refine va_sld hx hb hX hbl hbA hS (ks_in_vp hi7) dL_law_507 ?_
  refine lv_aload_n hx hb dL_law_508 rfl (lv_at hl 1 rfl) ?_
  refine lv_iload hx hb dL_law_509 (lv_at hl 5 rfl) ?_
  refine lv_iconst (v := 2) hx hb dL_law_511 (by decide) ?_
  refine lv_iadd hx hb dL_law_512 ?_
  obtain ⟨hi8, hf⟩ := ks_guard hf
  refine va_sld hx hb hX hbl hbA hS (ks_in_vp hi8) dL_law_513 ?_
  obtain ⟨⟨r10, s9⟩, hc11, hf⟩ := ks_bind hf
  try dsimp only at hf
  refine ks_calli (va_runV (As := [.int (xs ((i + 1)).toNatClampNeg), .int (xs ((i + 2)).toNatClampNeg)]) (rest := []) ⟨hx, hb, hml, hown, hts⟩ (m_X5_bound l D cy ad En n0 hG (fun k _ => hE k) o6 hc11) (cwV 2 hts gL_law_X5_bound rfl rfl rfl (by decide +kernel) ⟨(Nat.le_of_ble_eq_true rfl), (Nat.le_of_ble_eq_true rfl)⟩) ⟨ks_U.blind, ks_recv hK hW (ks_v14 (i := 0) (j := 0) (hE 14)) (ks_c14 cy ad _ 0 0 _) rfl, fun U hU9 hWm => ⟨rfl, ks_at hn0 hK hS hW hWm.alike hU9⟩⟩ rfl rfl hl.1 rfl (lv_room (Nat.le_of_ble_eq_true rfl)) dL_law_514 ⟨show (c9 + 2) + 0 ≤ 607239 by omega, show (z9 + 12) + 0 ≤ 7274386 by omega⟩) hS (fun H locs hW hS => ?_)
  refine lv_istore (lv' := [(6, .int r10), (5, .int r4), (0, .ref b), (1, .ref (ad 0 0 0)), (2, .ref (ad 14 0 0)), (3, .ref (ad 45 0 0)), (4, .int i)]) hx hb dL_law_517 hl (by decide) rfl (fun ls hl => ?_)
  refine lv_aload_n hx hb dL_law_519 rfl (lv_at hl 4 rfl) ?_
  obtain ⟨⟨r13, s12⟩, hc14, hf⟩ := ks_bind hf
  try dsimp only at hf
  refine ks_calli (va_runV (As := []) (rest := []) ⟨hx, hb, hml, hown, hts⟩ (m_X5_thrown l D cy ad En n0 hG (fun k _ => hE k) o6 hc14) (cwV 0 hts gL_law_X5_thrown rfl rfl rfl (by decide +kernel) ⟨(Nat.le_of_ble_eq_true rfl), (Nat.le_of_ble_eq_true rfl)⟩) ⟨ks_U.blind, ks_recv hK hW (ks_v14 (i := 0) (j := 0) (hE 14)) (ks_c14 cy ad _ 0 0 _) rfl, fun U hU9 hWm => ⟨rfl, ks_at hn0 hK hS hW hWm.alike hU9⟩⟩ rfl rfl hl.1 rfl (lv_room (Nat.le_of_ble_eq_true rfl)) dL_law_520 ⟨show (c9 + 2) + 0 ≤ 607239 by omega, show (z9 + 12) + 0 ≤ 7274386 by omega⟩) hS (fun H locs hW hS => ?_)
  refine lv_iload hx hb dL_law_523 (lv_at hl 1 rfl) ?_
  refine lv_icmp_eq (tgt := 530) hx hb dL_law_525 (by decide) (fun c15 => ?_) (fun c15 => ?_)
  · rw [if_pos c15] at hf
    refine lv_iload hx hb dL_law_530 (lv_at hl 1 rfl) ?_
    refine lv_if_ne (tgt := 547) hx hb dL_law_532 (by decide) (fun c16 => ?_) (fun c16 => ?_)
    · rw [if_neg c16] at hf
      refine lv_goto (tgt := 1082) hx hb dL_law_547 (by decide) ?_
      refine lv_iinc (v := (i + 7)) (lv' := [(4, .int (i + 7)), (6, .int r10), (5, .int r4), (0, .ref b), (1, .ref (ad 0 0 0)), (2, .ref (ad 14 0 0)), (3, .ref (ad 45 0 0))]) hx hb dL_law_1082 hl (k := 6) rfl rfl (by decide) rfl (fun ls hl => ?_)
      refine lv_goto (tgt := 23) hx hb dL_law_1085 (by decide) ?_
      exact hk s12 o6 ((i + 7)) hf hW hS (lv_sub hl [3, 4, 5, 6, 0] rfl) (by omega) (by omega)
    · rw [if_pos c16] at hf
      refine lv_aload_n hx hb dL_law_535 rfl (lv_at hl 5 rfl) ?_
      refine lv_iconst (v := 0) hx hb dL_law_536 (by decide) ?_
      refine ks_lald (H0 := s.heap) hx hb hK hW (hE 45) dL_law_537 ?_
      refine lv_iload hx hb dL_law_538 (lv_at hl 0 rfl) ?_
      refine lv_i2l (v := r10.toInt64) hx hb dL_law_540 rfl ?_
      refine W.lcmp hx hb dL_law_541 ?_
      refine lv_if_eq (tgt := 547) hx hb dL_law_542 (by decide) (fun c17 => ?_) (fun c17 => ?_)
      · rw [if_pos c17] at hf
        refine lv_goto (tgt := 1082) hx hb dL_law_547 (by decide) ?_
        refine lv_iinc (v := (i + 7)) (lv' := [(4, .int (i + 7)), (6, .int r10), (5, .int r4), (0, .ref b), (1, .ref (ad 0 0 0)), (2, .ref (ad 14 0 0)), (3, .ref (ad 45 0 0))]) hx hb dL_law_1082 hl (k := 6) rfl rfl (by decide) rfl (fun ls hl => ?_)
        refine lv_goto (tgt := 23) hx hb dL_law_1085 (by decide) ?_
        exact hk s12 o6 ((i + 7)) hf hW hS (lv_sub hl [3, 4, 5, 6, 0] rfl) (by omega) (by omega)
      · rw [if_neg c17] at hf
        refine lv_iconst (v := 0) hx hb dL_law_545 (by decide) ?_
        exact absurd hf (by simp)
  · rw [if_neg c15] at hf
    refine lv_iconst (v := 0) hx hb dL_law_528 (by decide) ?_
    exact absurd hf (by simp)
def f_law_6 (N : Nat) (xs : Nat → Int32) (L : Nat) (k : ks_S → Int64 → Int32 → Option Bool) (σ : ks_S) (o : Int64) (i : Int32) : Option Bool :=
  ((f_L_seal N σ o ).bind fun (r2, (s1, o4)) => ((f_X5_seal N s1).bind fun (r6, s5) => ((f_X5_thrown s5).bind fun (r9, s8) => (if r9 = r2 then (if r2 = 0 then (if ((lg_cmp o4 r6.toInt64)) = 0 then k s8 o4 ((i + 7)) else some false) else k s8 o4 ((i + 7))) else some false))))
set_option maxHeartbeats 4000000 in
set_option maxRecDepth 100000 in
theorem t_law_6 {p : Program} {l : Launch} {e : Env} {s : State} {m : MethodId} {below : List Frame} {meth : Method} {c : Code} {b L : Nat} {xs : Nat → Int32} {D : va_G} {cy : Nat → ClassId} {ad : ks_A} {En : Nat → Prop} {n0 : Nat → Prop} {N : Nat} {k : ks_S → Int64 → Int32 → Option Bool} (hlt : l.stackTraces = false) (C0 : lw_At p s m meth c b L xs) (hn0 : True) (hbA : ¬ ks_F n0 b) (hK : va_K D vwCl (ks_t cy) s) (hN : ks_N n0 s) (hNC : ks_NC s) (hG : ks_G ad En n0) (hE : ∀ k, En k) {c9 z9 : Nat} (hc9 : c9 + 8 ≤ 607239) (hz9 : z9 + 48 ≤ 7274386) (hk : ∀ (σ : ks_S) (o : Int64) (i : Int32), k σ o i = some true → ∀ {H : Heap} {locs : List Loc} {ls : Array Slot}, ks_W D cy ad En σ o H → va_S (ks_F n0) s.heap H locs → lv_has ls 7 [(0, .ref b), (1, .ref (ad 0 0 0)), (2, .ref (ad 14 0 0)), (3, .ref (ad 45 0 0)), (4, .int i)] → ∀ {c8 z8 : Nat}, c8 ≤ c9 + 8 → z8 ≤ z9 + 48 → W p l e room_1 s m #[Value.ref b] below meth c H locs c8 z8 (lw_Z below #[Value.ref b] s) (F0 m 23 ls [])) {σ : ks_S} {o : Int64} {i : Int32} (hf : f_law_6 N xs L k σ o i = some true) {H : Heap} {locs : List Loc} {ls : Array Slot} (hW : ks_W D cy ad En σ o H) (hS : va_S (ks_F n0) s.heap H locs) (hl : lv_has ls 7 [(0, .ref b), (1, .ref (ad 0 0 0)), (2, .ref (ad 14 0 0)), (3, .ref (ad 45 0 0)), (4, .int i)]) : W p l e room_1 s m #[Value.ref b] below meth c H locs c9 z9 (lw_Z below #[Value.ref b] s) (F0 m 550 ls []) := by
  obtain ⟨hx, hb, hr, hml, hown, hts0, hX, hbl, hlocks, hgv⟩ := id C0
  have hts : ∀ w ∈ wsL_law, w.before #[Value.ref b] s = true := fun w h => hts0 w (wsL_law_in w h)
  unfold f_law_6 at hf
  refine lv_aload_n hx hb dL_law_550 rfl (lv_at hl 1 rfl) ?_
  refine lv_aload_n hx hb dL_law_551 rfl (lv_at hl 3 rfl) ?_
  obtain ⟨⟨r2, s1, o4⟩, hc3, hf⟩ := ks_bind hf
  try dsimp only at hf
  refine ks_lcall (vx_runSX (hh := [(0, 8, 11, 15)]) (As := [.ref (ad 0 0 0), .ref (ad 45 0 0)]) (rest := []) ⟨hx, hb, hml, hown, hts⟩ (m_L_seal l hlt D cy ad En n0 hG hE o hc3) (vx_cwSW 2 hts gL_law_L_seal rfl rfl rfl (by decide +kernel) ⟨(Nat.le_of_ble_eq_true rfl), (Nat.le_of_ble_eq_true rfl)⟩) ⟨ks_UL.blind, fun U hU9 hWm => ⟨rfl, ks_at hn0 hK hS hW hWm.alike hU9, hN.now hS hWm.alike hU9, hNC.moved hWm.alike⟩⟩ rfl rfl hl.1 rfl (lv_room (Nat.le_of_ble_eq_true rfl)) dL_law_552 ⟨show c9 + 1 ≤ 607239 by omega, show z9 + 6 ≤ 7274386 by omega⟩) hS (fun H locs hW hS => ?_)
  refine lv_istore (lv' := [(5, .int r2), (0, .ref b), (1, .ref (ad 0 0 0)), (2, .ref (ad 14 0 0)), (3, .ref (ad 45 0 0)), (4, .int i)]) hx hb dL_law_555 hl (by decide) rfl (fun ls hl => ?_)
  refine lv_aload_n hx hb dL_law_557 rfl (lv_at hl 3 rfl) ?_
  obtain ⟨⟨r6, s5⟩, hc7, hf⟩ := ks_bind hf
  try dsimp only at hf
  refine ks_calli (va_runV (As := []) (rest := []) ⟨hx, hb, hml, hown, hts⟩ (m_X5_seal l D cy ad En n0 hG (fun k _ => hE k) o4 hc7) (cwV 0 hts gL_law_X5_seal rfl rfl rfl (by decide +kernel) ⟨(Nat.le_of_ble_eq_true rfl), (Nat.le_of_ble_eq_true rfl)⟩) ⟨ks_U.blind, ks_recv hK hW (ks_v14 (i := 0) (j := 0) (hE 14)) (ks_c14 cy ad _ 0 0 _) rfl, fun U hU9 hWm => ⟨rfl, ks_at hn0 hK hS hW hWm.alike hU9⟩⟩ rfl rfl hl.1 rfl (lv_room (Nat.le_of_ble_eq_true rfl)) dL_law_558 ⟨show (c9 + 1) + 0 ≤ 607239 by omega, show (z9 + 6) + 0 ≤ 7274386 by omega⟩) hS (fun H locs hW hS => ?_)
  refine lv_istore (lv' := [(6, .int r6), (5, .int r2), (0, .ref b), (1, .ref (ad 0 0 0)), (2, .ref (ad 14 0 0)), (3, .ref (ad 45 0 0)), (4, .int i)]) hx hb dL_law_561 hl (by decide) rfl (fun ls hl => ?_)
  refine lv_aload_n hx hb dL_law_563 rfl (lv_at hl 4 rfl) ?_
  obtain ⟨⟨r9, s8⟩, hc10, hf⟩ := ks_bind hf
  try dsimp only at hf
  refine ks_calli (va_runV (As := []) (rest := []) ⟨hx, hb, hml, hown, hts⟩ (m_X5_thrown l D cy ad En n0 hG (fun k _ => hE k) o4 hc10) (cwV 0 hts gL_law_X5_thrown rfl rfl rfl (by decide +kernel) ⟨(Nat.le_of_ble_eq_true rfl), (Nat.le_of_ble_eq_true rfl)⟩) ⟨ks_U.blind, ks_recv hK hW (ks_v14 (i := 0) (j := 0) (hE 14)) (ks_c14 cy ad _ 0 0 _) rfl, fun U hU9 hWm => ⟨rfl, ks_at hn0 hK hS hW hWm.alike hU9⟩⟩ rfl rfl hl.1 rfl (lv_room (Nat.le_of_ble_eq_true rfl)) dL_law_564 ⟨show (c9 + 1) + 0 ≤ 607239 by omega, show (z9 + 6) + 0 ≤ 7274386 by omega⟩) hS (fun H locs hW hS => ?_)
  refine lv_iload hx hb dL_law_567 (lv_at hl 1 rfl) ?_
  refine lv_icmp_eq (tgt := 574) hx hb dL_law_569 (by decide) (fun c11 => ?_) (fun c11 => ?_)
  · rw [if_pos c11] at hf
    refine lv_iload hx hb dL_law_574 (lv_at hl 1 rfl) ?_
    refine lv_if_ne (tgt := 591) hx hb dL_law_576 (by decide) (fun c12 => ?_) (fun c12 => ?_)
    · rw [if_neg c12] at hf
      refine lv_goto (tgt := 1082) hx hb dL_law_591 (by decide) ?_
      refine lv_iinc (v := (i + 7)) (lv' := [(4, .int (i + 7)), (6, .int r6), (5, .int r2), (0, .ref b), (1, .ref (ad 0 0 0)), (2, .ref (ad 14 0 0)), (3, .ref (ad 45 0 0))]) hx hb dL_law_1082 hl (k := 6) rfl rfl (by decide) rfl (fun ls hl => ?_)
      refine lv_goto (tgt := 23) hx hb dL_law_1085 (by decide) ?_
      exact hk s8 o4 ((i + 7)) hf hW hS (lv_sub hl [3, 4, 5, 6, 0] rfl) (by omega) (by omega)
    · rw [if_pos c12] at hf
      refine lv_aload_n hx hb dL_law_579 rfl (lv_at hl 5 rfl) ?_
      refine lv_iconst (v := 0) hx hb dL_law_580 (by decide) ?_
      refine ks_lald (H0 := s.heap) hx hb hK hW (hE 45) dL_law_581 ?_
      refine lv_iload hx hb dL_law_582 (lv_at hl 0 rfl) ?_
      refine lv_i2l (v := r6.toInt64) hx hb dL_law_584 rfl ?_
      refine W.lcmp hx hb dL_law_585 ?_
      refine lv_if_eq (tgt := 591) hx hb dL_law_586 (by decide) (fun c13 => ?_) (fun c13 => ?_)
      · rw [if_pos c13] at hf
        refine lv_goto (tgt := 1082) hx hb dL_law_591 (by decide) ?_
        refine lv_iinc (v := (i + 7)) (lv' := [(4, .int (i + 7)), (6, .int r6), (5, .int r2), (0, .ref b), (1, .ref (ad 0 0 0)), (2, .ref (ad 14 0 0)), (3, .ref (ad 45 0 0))]) hx hb dL_law_1082 hl (k := 6) rfl rfl (by decide) rfl (fun ls hl => ?_)
        refine lv_goto (tgt := 23) hx hb dL_law_1085 (by decide) ?_
        exact hk s8 o4 ((i + 7)) hf hW hS (lv_sub hl [3, 4, 5, 6, 0] rfl) (by omega) (by omega)
      · rw [if_neg c13] at hf
        refine lv_iconst (v := 0) hx hb dL_law_589 (by decide) ?_
        exact absurd hf (by simp)
  · rw [if_neg c11] at hf
    refine lv_iconst (v := 0) hx hb dL_law_572 (by decide) ?_
    exact absurd hf (by simp)
def f_law_7 (N : Nat) (xs : Nat → Int32) (L : Nat) (k : ks_S → Int64 → Int32 → Option Bool) (σ : ks_S) (o : Int64) (i : Int32) : Option Bool :=
  ((f_L_unseal N σ o ).bind fun (r2, (s1, o4)) => ((f_X5_unseal N s1).bind fun s5 => ((f_X5_thrown s5).bind fun (r9, s8) => (if r9 = r2 then k s8 o4 ((i + 7)) else some false))))
set_option maxHeartbeats 4000000 in
set_option maxRecDepth 100000 in
theorem t_law_7 {p : Program} {l : Launch} {e : Env} {s : State} {m : MethodId} {below : List Frame} {meth : Method} {c : Code} {b L : Nat} {xs : Nat → Int32} {D : va_G} {cy : Nat → ClassId} {ad : ks_A} {En : Nat → Prop} {n0 : Nat → Prop} {N : Nat} {k : ks_S → Int64 → Int32 → Option Bool} (hlt : l.stackTraces = false) (C0 : lw_At p s m meth c b L xs) (hn0 : True) (hbA : ¬ ks_F n0 b) (hK : va_K D vwCl (ks_t cy) s) (hN : ks_N n0 s) (hNC : ks_NC s) (hG : ks_G ad En n0) (hE : ∀ k, En k) {c9 z9 : Nat} (hc9 : c9 + 8 ≤ 607239) (hz9 : z9 + 48 ≤ 7274386) (hk : ∀ (σ : ks_S) (o : Int64) (i : Int32), k σ o i = some true → ∀ {H : Heap} {locs : List Loc} {ls : Array Slot}, ks_W D cy ad En σ o H → va_S (ks_F n0) s.heap H locs → lv_has ls 7 [(0, .ref b), (1, .ref (ad 0 0 0)), (2, .ref (ad 14 0 0)), (3, .ref (ad 45 0 0)), (4, .int i)] → ∀ {c8 z8 : Nat}, c8 ≤ c9 + 8 → z8 ≤ z9 + 48 → W p l e room_1 s m #[Value.ref b] below meth c H locs c8 z8 (lw_Z below #[Value.ref b] s) (F0 m 23 ls [])) {σ : ks_S} {o : Int64} {i : Int32} (hf : f_law_7 N xs L k σ o i = some true) {H : Heap} {locs : List Loc} {ls : Array Slot} (hW : ks_W D cy ad En σ o H) (hS : va_S (ks_F n0) s.heap H locs) (hl : lv_has ls 7 [(0, .ref b), (1, .ref (ad 0 0 0)), (2, .ref (ad 14 0 0)), (3, .ref (ad 45 0 0)), (4, .int i)]) : W p l e room_1 s m #[Value.ref b] below meth c H locs c9 z9 (lw_Z below #[Value.ref b] s) (F0 m 594 ls []) := by
  obtain ⟨hx, hb, hr, hml, hown, hts0, hX, hbl, hlocks, hgv⟩ := id C0
  have hts : ∀ w ∈ wsL_law, w.before #[Value.ref b] s = true := fun w h => hts0 w (wsL_law_in w h)
  unfold f_law_7 at hf
  refine lv_aload_n hx hb dL_law_594 rfl (lv_at hl 1 rfl) ?_
  obtain ⟨⟨r2, s1, o4⟩, hc3, hf⟩ := ks_bind hf
  try dsimp only at hf
  refine ks_lcall (vx_runSX (hh := [(0, 4, 7, 15)]) (As := [.ref (ad 0 0 0)]) (rest := []) ⟨hx, hb, hml, hown, hts⟩ (m_L_unseal l hlt D cy ad En n0 hG hE o hc3) (vx_cwSW 1 hts gL_law_L_unseal rfl rfl rfl (by decide +kernel) ⟨(Nat.le_of_ble_eq_true rfl), (Nat.le_of_ble_eq_true rfl)⟩) ⟨ks_UL.blind, fun U hU9 hWm => ⟨rfl, ks_at hn0 hK hS hW hWm.alike hU9, hN.now hS hWm.alike hU9, hNC.moved hWm.alike⟩⟩ rfl rfl hl.1 rfl (lv_room (Nat.le_of_ble_eq_true rfl)) dL_law_595 ⟨show c9 + 1 ≤ 607239 by omega, show z9 + 6 ≤ 7274386 by omega⟩) hS (fun H locs hW hS => ?_)
  refine lv_istore (lv' := [(5, .int r2), (0, .ref b), (1, .ref (ad 0 0 0)), (2, .ref (ad 14 0 0)), (3, .ref (ad 45 0 0)), (4, .int i)]) hx hb dL_law_598 hl (by decide) rfl (fun ls hl => ?_)
  refine lv_aload_n hx hb dL_law_600 rfl (lv_at hl 3 rfl) ?_
  obtain ⟨s5, hc7, hf⟩ := ks_bind hf
  try dsimp only at hf
  refine ks_callv (va_runV (As := []) (rest := []) ⟨hx, hb, hml, hown, hts⟩ (m_X5_unseal l D cy ad En n0 hG (fun k _ => hE k) o4 hc7) (cwV 0 hts gL_law_X5_unseal rfl rfl rfl (by decide +kernel) ⟨(Nat.le_of_ble_eq_true rfl), (Nat.le_of_ble_eq_true rfl)⟩) ⟨ks_U.blind, ks_recv hK hW (ks_v14 (i := 0) (j := 0) (hE 14)) (ks_c14 cy ad _ 0 0 _) rfl, fun U hU9 hWm => ⟨rfl, ks_at hn0 hK hS hW hWm.alike hU9⟩⟩ rfl rfl hl.1 rfl (lv_room (Nat.le_of_ble_eq_true rfl)) dL_law_601 ⟨show (c9 + 1) + 0 ≤ 607239 by omega, show (z9 + 6) + 0 ≤ 7274386 by omega⟩) hS (fun H locs hW hS => ?_)
  refine lv_aload_n hx hb dL_law_604 rfl (lv_at hl 3 rfl) ?_
  obtain ⟨⟨r9, s8⟩, hc10, hf⟩ := ks_bind hf
  try dsimp only at hf
  refine ks_calli (va_runV (As := []) (rest := []) ⟨hx, hb, hml, hown, hts⟩ (m_X5_thrown l D cy ad En n0 hG (fun k _ => hE k) o4 hc10) (cwV 0 hts gL_law_X5_thrown rfl rfl rfl (by decide +kernel) ⟨(Nat.le_of_ble_eq_true rfl), (Nat.le_of_ble_eq_true rfl)⟩) ⟨ks_U.blind, ks_recv hK hW (ks_v14 (i := 0) (j := 0) (hE 14)) (ks_c14 cy ad _ 0 0 _) rfl, fun U hU9 hWm => ⟨rfl, ks_at hn0 hK hS hW hWm.alike hU9⟩⟩ rfl rfl hl.1 rfl (lv_room (Nat.le_of_ble_eq_true rfl)) dL_law_605 ⟨show (c9 + 1) + 0 ≤ 607239 by omega, show (z9 + 6) + 0 ≤ 7274386 by omega⟩) hS (fun H locs hW hS => ?_)
  refine lv_iload hx hb dL_law_608 (lv_at hl 0 rfl) ?_
  refine lv_icmp_eq (tgt := 615) hx hb dL_law_610 (by decide) (fun c11 => ?_) (fun c11 => ?_)
  · rw [if_pos c11] at hf
    refine lv_goto (tgt := 1082) hx hb dL_law_615 (by decide) ?_
    refine lv_iinc (v := (i + 7)) (lv' := [(4, .int (i + 7)), (5, .int r2), (0, .ref b), (1, .ref (ad 0 0 0)), (2, .ref (ad 14 0 0)), (3, .ref (ad 45 0 0))]) hx hb dL_law_1082 hl (k := 5) rfl rfl (by decide) rfl (fun ls hl => ?_)
    refine lv_goto (tgt := 23) hx hb dL_law_1085 (by decide) ?_
    exact hk s8 o4 ((i + 7)) hf hW hS (lv_sub hl [2, 3, 4, 5, 0] rfl) (by omega) (by omega)
  · rw [if_neg c11] at hf
    refine lv_iconst (v := 0) hx hb dL_law_613 (by decide) ?_
    exact absurd hf (by simp)
