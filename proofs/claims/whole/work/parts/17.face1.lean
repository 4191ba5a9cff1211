/-! SpinKernel.task(IIIIII)V -/
def f_X4_task_100 (N : Nat) (σ : ks_S) (x1 : Int32) (x2 : Int32) (x3 : Int32) (x4 : Int32) (x5 : Int32) (x6 : Int32) (x7 : Int32) (xs0 : Int32) : Option ((Nat ⊕ Unit) × ks_S) :=
  (if x7 = 0 then some (.inl 2, σ) else (if xs0 = 0 then some (.inl 2, σ) else ((f_X4_isWithin σ x6 1 1000).bind fun (r20, s19) => (if r20 = 0 then some (.inl 2, s19) else ((f_X4_isPriorityTaken N s19 x2 x3).bind fun (r24, s23) => (if r24 = 0 then (if ks_in x1 16 = true then ((f_X3_layDown s23 ((x1.toNatClampNeg)) x2 x3 x4 x5 x6).bind fun s28 => ((f_X4_measure N s28).bind fun s31 => some (.inr (), s31))) else none) else some (.inl 2, s23)))))))
def f_X4_task_99 (N : Nat) (σ : ks_S) (x1 : Int32) (x2 : Int32) (x3 : Int32) (x4 : Int32) (x5 : Int32) (x6 : Int32) (x7 : Int32) : Option ((Nat ⊕ Unit) × ks_S) :=
  f_X4_task_100 N σ x1 x2 x3 x4 x5 x6 x7 0
def f_X4_task_70 (N : Nat) (σ : ks_S) (x1 : Int32) (x2 : Int32) (x3 : Int32) (x4 : Int32) (x5 : Int32) (x6 : Int32) (xs0 : Int32) : Option ((Nat ⊕ Unit) × ks_S) :=
  ((f_X4_isWithin σ x4 1 10000).bind fun (r14, s13) => (if r14 = 0 then f_X4_task_99 N s13 x1 x2 x3 x4 x5 x6 xs0 else ((f_X4_isWithin s13 x5 1 x4).bind fun (r35, s34) => (if r35 = 0 then f_X4_task_99 N s34 x1 x2 x3 x4 x5 x6 xs0 else f_X4_task_100 N s34 x1 x2 x3 x4 x5 x6 xs0 1))))
def f_X4_task_69 (N : Nat) (σ : ks_S) (x1 : Int32) (x2 : Int32) (x3 : Int32) (x4 : Int32) (x5 : Int32) (x6 : Int32) : Option ((Nat ⊕ Unit) × ks_S) :=
  f_X4_task_70 N σ x1 x2 x3 x4 x5 x6 0
def f_X4_task (N : Nat) (σ : ks_S) (x1 : Int32) (x2 : Int32) (x3 : Int32) (x4 : Int32) (x5 : Int32) (x6 : Int32) : Option ((Nat ⊕ Unit) × ks_S) :=
  ((f_X4_isWithin σ x1 0 15).bind fun (r3, s2) => (if r3 = 0 then some (.inl 0, s2) else (if ((s2 0 0 0 6)) = 0 then (if ks_in x1 16 = true then (if ((s2 8 ((x1.toNatClampNeg)) 0 0)) = 0 then ((f_X4_isWithin s2 x2 0 3).bind fun (r10, s9) => (if r10 = 0 then f_X4_task_69 N s9 x1 x2 x3 x4 x5 x6 else ((f_X4_isWithin s9 x3 0 1000).bind fun (r39, s38) => (if r39 = 0 then f_X4_task_69 N s38 x1 x2 x3 x4 x5 x6 else f_X4_task_70 N s38 x1 x2 x3 x4 x5 x6 1)))) else some (.inl 1, s2)) else none) else some (.inl 1, s2))))
theorem in_X4_task_3 : ∀ w ∈ wsX30, w ∈ wsX4_task := by decide +kernel
theorem in_X4_task_4 : ∀ w ∈ wsX40, w ∈ wsX4_task := by decide +kernel
set_option maxHeartbeats 4000000 in
set_option maxRecDepth 100000 in
theorem t_X4_task_100 {p : Program} {l : Launch} {e : Env} {s : State} {m : MethodId} {args : Array Value} {below : List Frame} {meth : Method} {c : Code} {D : va_G} {cy : Nat → ClassId} {ad : ks_A} {En : Nat → Prop} {n0 : Nat → Prop} {σ0 : ks_S} {o : Int64} {N : Nat} {out : ((Nat ⊕ Unit) × ks_S)} (C : ks_M p s m args meth c D cy ad En (fun k => ks_g k = 0) n0 σ0 o wsX4_task cX4_task RX4 9 (none)) (hlt : l.stackTraces = false) (hN : ks_N n0 s) (hexc : ∀ x ∈ c.exceptionTable.toList, False) {σ : ks_S} {x1 : Int32} {x2 : Int32} {x3 : Int32} {x4 : Int32} {x5 : Int32} {x6 : Int32} {x7 : Int32} {xs0 : Int32}  (hf : f_X4_task_100 N σ x1 x2 x3 x4 x5 x6 x7 xs0 = some out) {H : Heap} {locs : List Loc} {ls : Array Slot} (hW : ks_W D cy ad En σ o H) (hS : va_S (ks_F n0) s.heap H locs) (hl : lv_has ls 9 [(0, .ref (ad 0 0 0)), (1, .int x1), (2, .int x2), (3, .int x3), (4, .int x4), (5, .int x5), (6, .int x6), (7, .int x7)]) : W p l e (ks_Rm 6 1 6 88) s m args below meth c H locs 0 0 (vx_MQ below (ks_Yv D cy ad En n0 o out) (ks_X D cy ad En n0 o out) args s 1 6 (ks_F n0)) (F0 m 100 ls [.int xs0]) := by
  obtain ⟨hx, hb, hml, hr, hown, hts, hlocks, hG, hU0, hE⟩ := id C
  have hK := hU0.2.2
  unfold f_X4_task_100 at hf
  refine lv_istore (lv' := [(8, .int xs0), (0, .ref (ad 0 0 0)), (1, .int x1), (2, .int x2), (3, .int x3), (4, .int x4), (5, .int x5), (6, .int x6), (7, .int x7)]) hx hb dX4_task_100 hl (by decide) rfl (fun ls hl => ?_)
  refine lv_iload hx hb dX4_task_102 (lv_at hl 8 rfl) ?_
  refine lv_if_eq (tgt := 133) hx hb dX4_task_104 (by decide) (fun c16 => ?_) (fun c16 => ?_)
  · rw [if_pos c16] at hf
    exact ks_throw (ik := 65) (ic := 67) 2 hlt hN hexc C rfl (by decide +kernel) (by decide +kernel) (by decide +kernel) (by decide +kernel) ks_at2 ks_ag2 hf hW hS hl.1 dX4_task_133 dX4_task_136 dX4_task_137 dX4_task_140 ⟨(Nat.le_of_ble_eq_true rfl), (Nat.le_of_ble_eq_true rfl), (Nat.le_of_ble_eq_true rfl), (Nat.le_of_ble_eq_true rfl)⟩ (Nat.le_of_ble_eq_true rfl) (Nat.le_of_ble_eq_true rfl)
  · rw [if_neg c16] at hf
    refine lv_iload hx hb dX4_task_107 (lv_at hl 0 rfl) ?_
    refine lv_if_eq (tgt := 133) hx hb dX4_task_109 (by decide) (fun c17 => ?_) (fun c17 => ?_)
    · rw [if_pos c17] at hf
      exact ks_throw (ik := 65) (ic := 67) 2 hlt hN hexc C rfl (by decide +kernel) (by decide +kernel) (by decide +kernel) (by decide +kernel) ks_at2 ks_ag2 hf hW hS hl.1 dX4_task_133 dX4_task_136 dX4_task_137 dX4_task_140 ⟨(Nat.le_of_ble_eq_true rfl), (Nat.le_of_ble_eq_true rfl), (Nat.le_of_ble_eq_true rfl), (Nat.le_of_ble_eq_true rfl)⟩ (Nat.le_of_ble_eq_true rfl) (Nat.le_of_ble_eq_true rfl)
    · rw [if_neg c17] at hf
      refine lv_iload hx hb dX4_task_112 (lv_at hl 7 rfl) ?_
      refine lv_iconst (v := 1) hx hb dX4_task_114 (by decide) ?_
      refine lv_sipush (v := 1000) hx hb dX4_task_115 (by decide) ?_
      obtain ⟨⟨r20, s19⟩, hc18, hf⟩ := ks_bind hf
      try dsimp only at hf
      refine ks_calli (va_runS (As := [.int x6, .int 1, .int 1000]) (rest := []) ⟨hx, hb, hml, hown, hts⟩ (m_X4_isWithin l D cy ad En n0 hG hE o hc18) (va_cwS 3 hts gX4_task_X4_isWithin rfl rfl rfl (by decide +kernel) ⟨(Nat.le_of_ble_eq_true rfl), (Nat.le_of_ble_eq_true rfl)⟩) ⟨ks_U.blind, fun U hU hWm => ⟨rfl, hU0.now hS hW hWm.alike hU⟩⟩ rfl rfl hl.1 rfl (lv_room (Nat.le_of_ble_eq_true rfl)) dX4_task_118 ⟨(Nat.le_of_ble_eq_true rfl), (Nat.le_of_ble_eq_true rfl)⟩) hS (fun H locs hW hS => ?_)
      refine lv_if_eq (tgt := 133) hx hb dX4_task_121 (by decide) (fun c21 => ?_) (fun c21 => ?_)
      · rw [if_pos c21] at hf
        exact ks_throw (ik := 65) (ic := 67) 2 hlt hN hexc C rfl (by decide +kernel) (by decide +kernel) (by decide +kernel) (by decide +kernel) ks_at2 ks_ag2 hf hW hS hl.1 dX4_task_133 dX4_task_136 dX4_task_137 dX4_task_140 ⟨(Nat.le_of_ble_eq_true rfl), (Nat.le_of_ble_eq_true rfl), (Nat.le_of_ble_eq_true rfl), (Nat.le_of_ble_eq_true rfl)⟩ (Nat.le_of_ble_eq_true rfl) (Nat.le_of_ble_eq_true rfl)
      · rw [if_neg c21] at hf
        refine lv_aload_n hx hb dX4_task_124 rfl (lv_at hl 1 rfl) ?_
        refine lv_iload_n hx hb dX4_task_125 rfl (lv_at hl 3 rfl) ?_
        refine lv_iload_n hx hb dX4_task_126 rfl (lv_at hl 4 rfl) ?_
        obtain ⟨⟨r24, s23⟩, hc22, hf⟩ := ks_bind hf
        try dsimp only at hf
        refine ks_calli (va_runV (As := [.int x2, .int x3]) (rest := []) ⟨hx, hb, hml, hown, hts⟩ (m_X4_isPriorityTaken l D cy ad En n0 hG hE o hc22) (cwV 2 hts gX4_task_X4_isPriorityTaken rfl rfl rfl (by decide +kernel) ⟨(Nat.le_of_ble_eq_true rfl), (Nat.le_of_ble_eq_true rfl)⟩) ⟨ks_U.blind, ks_recv hK hW (ks_v0 (i := 0) (j := 0) (hE 0 rfl)) (ks_c0 cy ad o 0 0 _) rfl, fun U hU hWm => ⟨rfl, hU0.now hS hW hWm.alike hU⟩⟩ rfl rfl hl.1 rfl (lv_room (Nat.le_of_ble_eq_true rfl)) dX4_task_127 ⟨(Nat.le_of_ble_eq_true rfl), (Nat.le_of_ble_eq_true rfl)⟩) hS (fun H locs hW hS => ?_)
        refine lv_if_eq (tgt := 141) hx hb dX4_task_130 (by decide) (fun c25 => ?_) (fun c25 => ?_)
        · rw [if_pos c25] at hf
          refine lv_aload_n hx hb dX4_task_141 rfl (lv_at hl 1 rfl) ?_
          refine va_get (D := D) (ci := 4) (v := .ref (ad 1 0 0)) (C := RX4) (T := TX4) (N := 8) hx hb hts in_X4_task_4 hown hK (ks_P1 hW (ks_v0 (i := 0) (j := 0) (hE 0 rfl)) (ks_c0 cy ad o 0 0 _)) 0 rfl rfl 0 (by decide) (hts (.fieldLink RX4 11 "SpinKernel" "tasks" "[LSpinKernel$Task;") (by decide +kernel)) (fun _ h => h) rfl dX4_task_142 ?_
          refine lv_iload_n hx hb dX4_task_145 rfl (lv_at hl 2 rfl) ?_
          obtain ⟨hi26, hf⟩ := ks_guard hf
          refine ks_aald hx hb hK hW (ks_v1 (i := 0) (j := 0) (hE 1 rfl)) 3 (ks_c1 cy ad o 0 0 _) rfl rfl hi26 dX4_task_146 ?_
          refine lv_iload_n hx hb dX4_task_147 rfl (lv_at hl 3 rfl) ?_
          refine lv_iload_n hx hb dX4_task_148 rfl (lv_at hl 4 rfl) ?_
          refine lv_iload hx hb dX4_task_149 (lv_at hl 5 rfl) ?_
          refine lv_iload hx hb dX4_task_151 (lv_at hl 6 rfl) ?_
          refine lv_iload hx hb dX4_task_153 (lv_at hl 7 rfl) ?_
          obtain ⟨s28, hc27, hf⟩ := ks_bind hf
          try dsimp only at hf
          refine ks_callv (va_runV (As := [.int x2, .int x3, .int x4, .int x5, .int x6]) (rest := []) ⟨hx, hb, hml, hown, hts⟩ (m_X3_layDown l D cy ad En n0 hG hE o (ks_v8 (j := 0) (ks_in_lt hi26) (hE 8 rfl)) hc27) (cwV 5 hts gX4_task_X3_layDown rfl rfl rfl (by decide +kernel) ⟨(Nat.le_of_ble_eq_true rfl), (Nat.le_of_ble_eq_true rfl)⟩) ⟨ks_U.blind, ks_recv hK hW (ks_v8 (j := 0) (ks_in_lt hi26) (hE 8 rfl)) (ks_c8 cy ad o (x1.toNatClampNeg) 0 _) rfl, fun U hU hWm => ⟨rfl, hU0.now hS hW hWm.alike hU⟩⟩ rfl rfl hl.1 rfl (lv_room (Nat.le_of_ble_eq_true rfl)) dX4_task_155 ⟨(Nat.le_of_ble_eq_true rfl), (Nat.le_of_ble_eq_true rfl)⟩) hS (fun H locs hW hS => ?_)
          refine lv_aload_n hx hb dX4_task_158 rfl (lv_at hl 1 rfl) ?_
          obtain ⟨s31, hc30, hf⟩ := ks_bind hf
          try dsimp only at hf
          refine ks_callv (va_runV (As := []) (rest := []) ⟨hx, hb, hml, hown, hts⟩ (m_X4_measure l D cy ad En n0 hG hE o hc30) (cwV 0 hts gX4_task_X4_measure rfl rfl rfl (by decide +kernel) ⟨(Nat.le_of_ble_eq_true rfl), (Nat.le_of_ble_eq_true rfl)⟩) ⟨ks_U.blind, ks_recv hK hW (ks_v0 (i := 0) (j := 0) (hE 0 rfl)) (ks_c0 cy ad o 0 0 _) rfl, fun U hU hWm => ⟨rfl, hU0.now hS hW hWm.alike hU⟩⟩ rfl rfl hl.1 rfl (lv_room (Nat.le_of_ble_eq_true rfl)) dX4_task_159 ⟨(Nat.le_of_ble_eq_true rfl), (Nat.le_of_ble_eq_true rfl)⟩) hS (fun H locs hW hS => ?_)
          exact ks_yvret (Nat.le_of_ble_eq_true rfl) (Nat.le_of_ble_eq_true rfl) C hf hW hS dX4_task_162
        · rw [if_neg c25] at hf
          exact ks_throw (ik := 65) (ic := 67) 2 hlt hN hexc C rfl (by decide +kernel) (by decide +kernel) (by decide +kernel) (by decide +kernel) ks_at2 ks_ag2 hf hW hS hl.1 dX4_task_133 dX4_task_136 dX4_task_137 dX4_task_140 ⟨(Nat.le_of_ble_eq_true rfl), (Nat.le_of_ble_eq_true rfl), (Nat.le_of_ble_eq_true rfl), (Nat.le_of_ble_eq_true rfl)⟩ (Nat.le_of_ble_eq_true rfl) (Nat.le_of_ble_eq_true rfl)
set_option maxHeartbeats 4000000 in
set_option maxRecDepth 100000 in
theorem t_X4_task_99 {p : Program} {l : Launch} {e : Env} {s : State} {m : MethodId} {args : Array Value} {below : List Frame} {meth : Method} {c : Code} {D : va_G} {cy : Nat → ClassId} {ad : ks_A} {En : Nat → Prop} {n0 : Nat → Prop} {σ0 : ks_S} {o : Int64} {N : Nat} {out : ((Nat ⊕ Unit) × ks_S)} (C : ks_M p s m args meth c D cy ad En (fun k => ks_g k = 0) n0 σ0 o wsX4_task cX4_task RX4 9 (none)) (hlt : l.stackTraces = false) (hN : ks_N n0 s) (hexc : ∀ x ∈ c.exceptionTable.toList, False) {σ : ks_S} {x1 : Int32} {x2 : Int32} {x3 : Int32} {x4 : Int32} {x5 : Int32} {x6 : Int32} {x7 : Int32}  (hf : f_X4_task_99 N σ x1 x2 x3 x4 x5 x6 x7 = some out) {H : Heap} {locs : List Loc} {ls : Array Slot} (hW : ks_W D cy ad En σ o H) (hS : va_S (ks_F n0) s.heap H locs) (hl : lv_has ls 9 [(0, .ref (ad 0 0 0)), (1, .int x1), (2, .int x2), (3, .int x3), (4, .int x4), (5, .int x5), (6, .int x6), (7, .int x7)]) : W p l e (ks_Rm 6 1 6 88) s m args below meth c H locs 0 0 (vx_MQ below (ks_Yv D cy ad En n0 o out) (ks_X D cy ad En n0 o out) args s 1 6 (ks_F n0)) (F0 m 99 ls []) := by
  obtain ⟨hx, hb, hml, hr, hown, hts, hlocks, hG, hU0, hE⟩ := id C
  have hK := hU0.2.2
  unfold f_X4_task_99 at hf
  refine lv_iconst (v := 0) hx hb dX4_task_99 (by decide) ?_
  exact t_X4_task_100 C hlt hN hexc  hf hW hS (lv_sub hl [0, 1, 2, 3, 4, 5, 6, 7] rfl)
set_option maxHeartbeats 4000000 in
set_option maxRecDepth 100000 in
theorem t_X4_task_70 {p : Program} {l : Launch} {e : Env} {s : State} {m : MethodId} {args : Array Value} {below : List Frame} {meth : Method} {c : Code} {D : va_G} {cy : Nat → ClassId} {ad : ks_A} {En : Nat → Prop} {n0 : Nat → Prop} {σ0 : ks_S} {o : Int64} {N : Nat} {out : ((Nat ⊕ Unit) × ks_S)} (C : ks_M p s m args meth c D cy ad En (fun k => ks_g k = 0) n0 σ0 o wsX4_task cX4_task RX4 9 (none)) (hlt : l.stackTraces = false) (hN : ks_N n0 s) (hexc : ∀ x ∈ c.exceptionTable.toList, False) {σ : ks_S} {x1 : Int32} {x2 : Int32} {x3 : Int32} {x4 : Int32} {x5 : Int32} {x6 : Int32} {xs0 : Int32}  (hf : f_X4_task_70 N σ x1 x2 x3 x4 x5 x6 xs0 = some out) {H : Heap} {locs : List Loc} {ls : Array Slot} (hW : ks_W D cy ad En σ o H) (hS : va_S (ks_F n0) s.heap H locs) (hl : lv_has ls 9 [(0, .ref (ad 0 0 0)), (1, .int x1), (2, .int x2), (3, .int x3), (4, .int x4), (5, .int x5), (6, .int x6)]) : W p l e (ks_Rm 6 1 6 88) s m args below meth c H locs 0 0 (vx_MQ below (ks_Yv D cy ad En n0 o out) (ks_X D cy ad En n0 o out) args s 1 6 (ks_F n0)) (F0 m 70 ls [.int xs0]) := by
  obtain ⟨hx, hb, hml, hr, hown, hts, hlocks, hG, hU0, hE⟩ := id C
  have hK := hU0.2.2
  unfold f_X4_task_70 at hf
  refine lv_istore (lv' := [(7, .int xs0), (0, .ref (ad 0 0 0)), (1, .int x1), (2, .int x2), (3, .int x3), (4, .int x4), (5, .int x5), (6, .int x6)]) hx hb dX4_task_70 hl (by decide) rfl (fun ls hl => ?_)
  refine lv_iload hx hb dX4_task_72 (lv_at hl 5 rfl) ?_
  refine lv_iconst (v := 1) hx hb dX4_task_74 (by decide) ?_
  refine lv_sipush (v := 10000) hx hb dX4_task_75 (by decide) ?_
  obtain ⟨⟨r14, s13⟩, hc12, hf⟩ := ks_bind hf
  try dsimp only at hf
  refine ks_calli (va_runS (As := [.int x4, .int 1, .int 10000]) (rest := []) ⟨hx, hb, hml, hown, hts⟩ (m_X4_isWithin l D cy ad En n0 hG hE o hc12) (va_cwS 3 hts gX4_task_X4_isWithin rfl rfl rfl (by decide +kernel) ⟨(Nat.le_of_ble_eq_true rfl), (Nat.le_of_ble_eq_true rfl)⟩) ⟨ks_U.blind, fun U hU hWm => ⟨rfl, hU0.now hS hW hWm.alike hU⟩⟩ rfl rfl hl.1 rfl (lv_room (Nat.le_of_ble_eq_true rfl)) dX4_task_78 ⟨(Nat.le_of_ble_eq_true rfl), (Nat.le_of_ble_eq_true rfl)⟩) hS (fun H locs hW hS => ?_)
  refine lv_if_eq (tgt := 99) hx hb dX4_task_81 (by decide) (fun c15 => ?_) (fun c15 => ?_)
  · rw [if_pos c15] at hf
    exact t_X4_task_99 C hlt hN hexc  hf hW hS (lv_sub hl [1, 2, 3, 4, 5, 6, 7, 0] rfl)
  · rw [if_neg c15] at hf
    refine lv_iload hx hb dX4_task_84 (lv_at hl 6 rfl) ?_
    refine lv_iconst (v := 1) hx hb dX4_task_86 (by decide) ?_
    refine lv_iload hx hb dX4_task_87 (lv_at hl 5 rfl) ?_
    obtain ⟨⟨r35, s34⟩, hc33, hf⟩ := ks_bind hf
    try dsimp only at hf
    refine ks_calli (va_runS (As := [.int x5, .int 1, .int x4]) (rest := []) ⟨hx, hb, hml, hown, hts⟩ (m_X4_isWithin l D cy ad En n0 hG hE o hc33) (va_cwS 3 hts gX4_task_X4_isWithin rfl rfl rfl (by decide +kernel) ⟨(Nat.le_of_ble_eq_true rfl), (Nat.le_of_ble_eq_true rfl)⟩) ⟨ks_U.blind, fun U hU hWm => ⟨rfl, hU0.now hS hW hWm.alike hU⟩⟩ rfl rfl hl.1 rfl (lv_room (Nat.le_of_ble_eq_true rfl)) dX4_task_89 ⟨(Nat.le_of_ble_eq_true rfl), (Nat.le_of_ble_eq_true rfl)⟩) hS (fun H locs hW hS => ?_)
    refine lv_if_eq (tgt := 99) hx hb dX4_task_92 (by decide) (fun c36 => ?_) (fun c36 => ?_)
    · rw [if_pos c36] at hf
      exact t_X4_task_99 C hlt hN hexc  hf hW hS (lv_sub hl [1, 2, 3, 4, 5, 6, 7, 0] rfl)
    · rw [if_neg c36] at hf
      refine lv_iconst (v := 1) hx hb dX4_task_95 (by decide) ?_
      refine lv_goto (tgt := 100) hx hb dX4_task_96 (by decide) ?_
      exact t_X4_task_100 C hlt hN hexc  hf hW hS (lv_sub hl [1, 2, 3, 4, 5, 6, 7, 0] rfl)
set_option maxHeartbeats 4000000 in
set_option maxRecDepth 100000 in
theorem t_X4_task_69 {p : Program} {l : Launch} {e : Env} {s : State} {m : MethodId} {args : Array Value} {below : List Frame} {meth : Method} {c : Code} {D : va_G} {cy : Nat → ClassId} {ad : ks_A} {En : Nat → Prop} {n0 : Nat → Prop} {σ0 : ks_S} {o : Int64} {N : Nat} {out : ((Nat ⊕ Unit) × ks_S)} (C : ks_M p s m args meth c D cy ad En (fun k => ks_g k = 0) n0 σ0 o wsX4_task cX4_task RX4 9 (none)) (hlt : l.stackTraces = false) (hN : ks_N n0 s) (hexc : ∀ x ∈ c.exceptionTable.toList, False) {σ : ks_S} {x1 : Int32} {x2 : Int32} {x3 : Int32} {x4 : Int32} {x5 : Int32} {x6 : Int32}  (hf : f_X4_task_69 N σ x1 x2 x3 x4 x5 x6 = some out) {H : Heap} {locs : List Loc} {ls : Array Slot} (hW : ks_W D cy ad En σ o H) (hS : va_S (ks_F n0) s.heap H locs) (hl : lv_has ls 9 [(0, .ref (ad 0 0 0)), (1, .int x1), (2, .int x2), (3, .int x3), (4, .int x4), (5, .int x5), (6, .int x6)]) : W p l e (ks_Rm 6 1 6 88) s m args below meth c H locs 0 0 (vx_MQ below (ks_Yv D cy ad En n0 o out) (ks_X D cy ad En n0 o out) args s 1 6 (ks_F n0)) (F0 m 69 ls []) := by
  obtain ⟨hx, hb, hml, hr, hown, hts, hlocks, hG, hU0, hE⟩ := id C
  have hK := hU0.2.2
  unfold f_X4_task_69 at hf
  refine lv_iconst (v := 0) hx hb dX4_task_69 (by decide) ?_
  exact t_X4_task_70 C hlt hN hexc  hf hW hS (lv_sub hl [0, 1, 2, 3, 4, 5, 6] rfl)
set_option maxHeartbeats 4000000 in
set_option maxRecDepth 100000 in
theorem t_X4_task {p : Program} {l : Launch} {e : Env} {s : State} {m : MethodId} {args : Array Value} {below : List Frame} {meth : Method} {c : Code} {D : va_G} {cy : Nat → ClassId} {ad : ks_A} {En : Nat → Prop} {n0 : Nat → Prop} {σ0 : ks_S} {o : Int64} {N : Nat} {out : ((Nat ⊕ Unit) × ks_S)} (C : ks_M p s m args meth c D cy ad En (fun k => ks_g k = 0) n0 σ0 o wsX4_task cX4_task RX4 9 (none)) (hlt : l.stackTraces = false) (hN : ks_N n0 s) (hexc : ∀ x ∈ c.exceptionTable.toList, False) {σ : ks_S} {x1 : Int32} {x2 : Int32} {x3 : Int32} {x4 : Int32} {x5 : Int32} {x6 : Int32}  (hf : f_X4_task N σ x1 x2 x3 x4 x5 x6 = some out) {H : Heap} {locs : List Loc} {ls : Array Slot} (hW : ks_W D cy ad En σ o H) (hS : va_S (ks_F n0) s.heap H locs) (hl : lv_has ls 9 [(0, .ref (ad 0 0 0)), (1, .int x1), (2, .int x2), (3, .int x3), (4, .int x4), (5, .int x5), (6, .int x6)]) : W p l e (ks_Rm 6 1 6 88) s m args below meth c H locs 0 0 (vx_MQ below (ks_Yv D cy ad En n0 o out) (ks_X D cy ad En n0 o out) args s 1 6 (ks_F n0)) (F0 m 0 ls []) := by
  obtain ⟨hx, hb, hml, hr, hown, hts, hlocks, hG, hU0, hE⟩ := id C
  have hK := hU0.2.2
  unfold f_X4_task at hf
  refine lv_iload_n hx hb dX4_task_0 rfl (lv_at hl 1 rfl) ?_
  refine lv_iconst (v := 0) hx hb dX4_task_1 (by decide) ?_
  refine lv_bipush (v := 15) hx hb dX4_task_2 (by decide) ?_
  obtain ⟨⟨r3, s2⟩, hc1, hf⟩ := ks_bind hf
  try dsimp only at hf
  refine ks_calli (va_runS (As := [.int x1, .int 0, .int 15]) (rest := []) ⟨hx, hb, hml, hown, hts⟩ (m_X4_isWithin l D cy ad En n0 hG hE o hc1) (va_cwS 3 hts gX4_task_X4_isWithin rfl rfl rfl (by decide +kernel) ⟨(Nat.le_of_ble_eq_true rfl), (Nat.le_of_ble_eq_true rfl)⟩) ⟨ks_U.blind, fun U hU hWm => ⟨rfl, hU0.now hS hW hWm.alike hU⟩⟩ rfl rfl hl.1 rfl (lv_room (Nat.le_of_ble_eq_true rfl)) dX4_task_4 ⟨(Nat.le_of_ble_eq_true rfl), (Nat.le_of_ble_eq_true rfl)⟩) hS (fun H locs hW hS => ?_)
  refine lv_if_ne (tgt := 18) hx hb dX4_task_7 (by decide) (fun c4 => ?_) (fun c4 => ?_)
  · rw [if_neg c4] at hf
    refine lv_aload_n hx hb dX4_task_18 rfl (lv_at hl 0 rfl) ?_
    refine va_get (D := D) (ci := 4) (v := .int (s2 0 0 0 6)) (C := RX4) (T := TX4) (N := 8) hx hb hts in_X4_task_4 hown hK (ks_P1 hW (ks_v0 (i := 0) (j := 0) (hE 0 rfl)) (ks_c0 cy ad o 0 0 _)) 0 rfl rfl 6 (by decide) (hts (.fieldLink RX4 51 "SpinKernel" "sealed" "Z") (by decide +kernel)) (fun _ h => h) rfl dX4_task_19 ?_
    refine lv_if_ne (tgt := 37) hx hb dX4_task_22 (by decide) (fun c5 => ?_) (fun c5 => ?_)
    · rw [if_neg c5] at hf
      exact ks_throw (ik := 58) (ic := 60) 1 hlt hN hexc C rfl (by decide +kernel) (by decide +kernel) (by decide +kernel) (by decide +kernel) ks_at1 ks_ag1 hf hW hS hl.1 dX4_task_37 dX4_task_40 dX4_task_41 dX4_task_44 ⟨(Nat.le_of_ble_eq_true rfl), (Nat.le_of_ble_eq_true rfl), (Nat.le_of_ble_eq_true rfl), (Nat.le_of_ble_eq_true rfl)⟩ (Nat.le_of_ble_eq_true rfl) (Nat.le_of_ble_eq_true rfl)
    · rw [if_pos c5] at hf
      refine lv_aload_n hx hb dX4_task_25 rfl (lv_at hl 0 rfl) ?_
      refine va_get (D := D) (ci := 4) (v := .ref (ad 1 0 0)) (C := RX4) (T := TX4) (N := 8) hx hb hts in_X4_task_4 hown hK (ks_P1 hW (ks_v0 (i := 0) (j := 0) (hE 0 rfl)) (ks_c0 cy ad o 0 0 _)) 0 rfl rfl 0 (by decide) (hts (.fieldLink RX4 11 "SpinKernel" "tasks" "[LSpinKernel$Task;") (by decide +kernel)) (fun _ h => h) rfl dX4_task_26 ?_
      refine lv_iload_n hx hb dX4_task_29 rfl (lv_at hl 1 rfl) ?_
      obtain ⟨hi6, hf⟩ := ks_guard hf
      refine ks_aald hx hb hK hW (ks_v1 (i := 0) (j := 0) (hE 1 rfl)) 3 (ks_c1 cy ad o 0 0 _) rfl rfl hi6 dX4_task_30 ?_
      refine va_get (D := D) (ci := 3) (v := .int (s2 8 ((x1.toNatClampNeg)) 0 0)) (C := RX3) (T := TX3) (N := 10) hx hb hts in_X4_task_3 hown hK (ks_P1 hW (ks_v8 (j := 0) (ks_in_lt hi6) (hE 8 rfl)) (ks_c8 cy ad o (x1.toNatClampNeg) 0 _)) 0 rfl rfl 0 (by decide) (hts (.fieldLink RX4 55 "SpinKernel$Task" "isThere" "Z") (by decide +kernel)) (fun _ h => h) rfl dX4_task_31 ?_
      refine lv_if_eq (tgt := 45) hx hb dX4_task_34 (by decide) (fun c7 => ?_) (fun c7 => ?_)
      · rw [if_pos c7] at hf
        refine lv_iload_n hx hb dX4_task_45 rfl (lv_at hl 2 rfl) ?_
        refine lv_iconst (v := 0) hx hb dX4_task_46 (by decide) ?_
        refine lv_iconst (v := 3) hx hb dX4_task_47 (by decide) ?_
        obtain ⟨⟨r10, s9⟩, hc8, hf⟩ := ks_bind hf
        try dsimp only at hf
        refine ks_calli (va_runS (As := [.int x2, .int 0, .int 3]) (rest := []) ⟨hx, hb, hml, hown, hts⟩ (m_X4_isWithin l D cy ad En n0 hG hE o hc8) (va_cwS 3 hts gX4_task_X4_isWithin rfl rfl rfl (by decide +kernel) ⟨(Nat.le_of_ble_eq_true rfl), (Nat.le_of_ble_eq_true rfl)⟩) ⟨ks_U.blind, fun U hU hWm => ⟨rfl, hU0.now hS hW hWm.alike hU⟩⟩ rfl rfl hl.1 rfl (lv_room (Nat.le_of_ble_eq_true rfl)) dX4_task_48 ⟨(Nat.le_of_ble_eq_true rfl), (Nat.le_of_ble_eq_true rfl)⟩) hS (fun H locs hW hS => ?_)
        refine lv_if_eq (tgt := 69) hx hb dX4_task_51 (by decide) (fun c11 => ?_) (fun c11 => ?_)
        · rw [if_pos c11] at hf
          exact t_X4_task_69 C hlt hN hexc  hf hW hS (lv_sub hl [0, 1, 2, 3, 4, 5, 6] rfl)
        · rw [if_neg c11] at hf
          refine lv_iload_n hx hb dX4_task_54 rfl (lv_at hl 3 rfl) ?_
          refine lv_iconst (v := 0) hx hb dX4_task_55 (by decide) ?_
          refine lv_sipush (v := 1000) hx hb dX4_task_56 (by decide) ?_
          obtain ⟨⟨r39, s38⟩, hc37, hf⟩ := ks_bind hf
          try dsimp only at hf
          refine ks_calli (va_runS (As := [.int x3, .int 0, .int 1000]) (rest := []) ⟨hx, hb, hml, hown, hts⟩ (m_X4_isWithin l D cy ad En n0 hG hE o hc37) (va_cwS 3 hts gX4_task_X4_isWithin rfl rfl rfl (by decide +kernel) ⟨(Nat.le_of_ble_eq_true rfl), (Nat.le_of_ble_eq_true rfl)⟩) ⟨ks_U.blind, fun U hU hWm => ⟨rfl, hU0.now hS hW hWm.alike hU⟩⟩ rfl rfl hl.1 rfl (lv_room (Nat.le_of_ble_eq_true rfl)) dX4_task_59 ⟨(Nat.le_of_ble_eq_true rfl), (Nat.le_of_ble_eq_true rfl)⟩) hS (fun H locs hW hS => ?_)
          refine lv_if_eq (tgt := 69) hx hb dX4_task_62 (by decide) (fun c40 => ?_) (fun c40 => ?_)
          · rw [if_pos c40] at hf
            exact t_X4_task_69 C hlt hN hexc  hf hW hS (lv_sub hl [0, 1, 2, 3, 4, 5, 6] rfl)
          · rw [if_neg c40] at hf
            refine lv_iconst (v := 1) hx hb dX4_task_65 (by decide) ?_
            refine lv_goto (tgt := 70) hx hb dX4_task_66 (by decide) ?_
            exact t_X4_task_70 C hlt hN hexc  hf hW hS (lv_sub hl [0, 1, 2, 3, 4, 5, 6] rfl)
      · rw [if_neg c7] at hf
        exact ks_throw (ik := 58) (ic := 60) 1 hlt hN hexc C rfl (by decide +kernel) (by decide +kernel) (by decide +kernel) (by decide +kernel) ks_at1 ks_ag1 hf hW hS hl.1 dX4_task_37 dX4_task_40 dX4_task_41 dX4_task_44 ⟨(Nat.le_of_ble_eq_true rfl), (Nat.le_of_ble_eq_true rfl), (Nat.le_of_ble_eq_true rfl), (Nat.le_of_ble_eq_true rfl)⟩ (Nat.le_of_ble_eq_true rfl) (Nat.le_of_ble_eq_true rfl)
  · rw [if_pos c4] at hf
    exact ks_throw (ik := 48) (ic := 50) 0 hlt hN hexc C rfl (by decide +kernel) (by decide +kernel) (by decide +kernel) (by decide +kernel) ks_at0 ks_ag0 hf hW hS hl.1 dX4_task_10 dX4_task_13 dX4_task_14 dX4_task_17 ⟨(Nat.le_of_ble_eq_true rfl), (Nat.le_of_ble_eq_true rfl), (Nat.le_of_ble_eq_true rfl), (Nat.le_of_ble_eq_true rfl)⟩ (Nat.le_of_ble_eq_true rfl) (Nat.le_of_ble_eq_true rfl)
set_option maxHeartbeats 4000000 in
set_option maxRecDepth 100000 in
theorem m_X4_task (l : Launch) (hlt : l.stackTraces = false) (D : va_G) (cy : Nat → ClassId) (ad : ks_A) (En : Nat → Prop) (n0 : Nat → Prop) (hG : ks_G ad En n0) (hE : ∀ k, ks_g k = 0 → En k) (o : Int64) {N : Nat} {σ : ks_S} {x1 : Int32} {x2 : Int32} {x3 : Int32} {x4 : Int32} {x5 : Int32} {x6 : Int32}  {out : ((Nat ⊕ Unit) × ks_S)} (hf : f_X4_task N σ x1 x2 x3 x4 x5 x6 = some out) : vx_Met l yX4_task wsX4_task (ks_Rm 6 1 6 88) (va_Pc [.ref (ad 0 0 0), .int x1, .int x2, .int x3, .int x4, .int x5, .int x6] (ks_UN D cy ad En n0 σ o)) (ks_Yv D cy ad En n0 o out) (ks_X D cy ad En n0 o out) 1 6 (ks_F n0) := by
  refine vx_ofW (cc := cX4_task) (maxL := 9) (ret := none) (by decide) rfl ?_
  intro p e s m args below meth c s₁ B hml hexc hv
  obtain ⟨rfl, hU, hN⟩ := hv
  have hl := lv_entry ([.ref (ad 0 0 0), .int x1, .int x2, .int x3, .int x4, .int x5, .int x6]) (n := 9) (Nat.le_of_ble_eq_true rfl)
  rw [lg_entry_eq]
  generalize (lg_sl ([.ref (ad 0 0 0), .int x1, .int x2, .int x3, .int x4, .int x5, .int x6]) ++ List.replicate (9 - (lg_sl ([.ref (ad 0 0 0), .int x1, .int x2, .int x3, .int x4, .int x5, .int x6])).length) Slot.unset).toArray = ls at hl ⊢
  exact t_X4_task ⟨B.exec, B.bytes, hml, B.returns, findClass_of_methodNamed B.named, atoms_spec (ws := wsX4_task) B.pre, B.notSynchronized, hG, hU, hE⟩ hlt hN hexc  hf hU.2.1 va_S.rf hl

/-! SpinKernel.request(IIIII)I -/
def f_X4_request_58 (N : Nat) (σ : ks_S) (x2 : Int32) (x3 : Int32) (x4 : Int32) (x5 : Int32) (a6 : Nat) (xs0 : Int32) : Option ((Nat ⊕ Int32) × ks_S) :=
  (if xs0 = 0 then some (.inl 2, σ) else ((f_X3_hasPlaceFor N σ a6 x2 x4 x5).bind fun (r16, s15) => (if r16 = 0 then some (.inl 2, s15) else ((f_X3_addRequest s15 a6 x2 x3 x4 x5).bind fun (r20, s19) => ((f_X4_measure N s19).bind fun s22 => some (.inr r20, s22))))))
def f_X4_request_57 (N : Nat) (σ : ks_S) (x2 : Int32) (x3 : Int32) (x4 : Int32) (x5 : Int32) (a6 : Nat) : Option ((Nat ⊕ Int32) × ks_S) :=
  f_X4_request_58 N σ x2 x3 x4 x5 a6 0
def f_X4_request (N : Nat) (σ : ks_S) (x1 : Int32) (x2 : Int32) (x3 : Int32) (x4 : Int32) (x5 : Int32) : Option ((Nat ⊕ Int32) × ks_S) :=
  ((f_X4_taskAt σ x1).bind fun q5 => match q5 with | (.inl e4, s2) => some (.inl e4, s2) | (.inr (r3, r3j), s2) => (if ((s2 0 0 0 6)) = 0 then (if ((s2 8 r3 0 7)) < 6 then ((f_X4_isWithin s2 x3 0 7).bind fun (r11, s10) => (if r11 = 0 then f_X4_request_57 N s10 x2 x3 x4 x5 r3 else ((f_X4_isWithin s10 x4 1 100).bind fun (r26, s25) => (if r26 = 0 then f_X4_request_57 N s25 x2 x3 x4 x5 r3 else f_X4_request_58 N s25 x2 x3 x4 x5 r3 1)))) else some (.inl 1, s2)) else some (.inl 1, s2)))
theorem in_X4_request_3 : ∀ w ∈ wsX30, w ∈ wsX4_request := by decide +kernel
theorem in_X4_request_4 : ∀ w ∈ wsX40, w ∈ wsX4_request := by decide +kernel
set_option maxHeartbeats 4000000 in
set_option maxRecDepth 100000 in
theorem t_X4_request_58 {p : Program} {l : Launch} {e : Env} {s : State} {m : MethodId} {args : Array Value} {below : List Frame} {meth : Method} {c : Code} {D : va_G} {cy : Nat → ClassId} {ad : ks_A} {En : Nat → Prop} {n0 : Nat → Prop} {σ0 : ks_S} {o : Int64} {N : Nat} {out : ((Nat ⊕ Int32) × ks_S)} (C : ks_M p s m args meth c D cy ad En (fun k => ks_g k = 0) n0 σ0 o wsX4_request cX4_request RX4 9 (some .int)) (hlt : l.stackTraces = false) (hN : ks_N n0 s) (hexc : ∀ x ∈ c.exceptionTable.toList, False) {σ : ks_S} {x2 : Int32} {x3 : Int32} {x4 : Int32} {x5 : Int32} {a6 : Nat} {xs0 : Int32} (v6 : ks_v En 8 a6 0) (hf : f_X4_request_58 N σ x2 x3 x4 x5 a6 xs0 = some out) {H : Heap} {locs : List Loc} {ls : Array Slot} (hW : ks_W D cy ad En σ o H) (hS : va_S (ks_F n0) s.heap H locs) (hl : lv_has ls 9 [(0, .ref (ad 0 0 0)), (2, .int x2), (3, .int x3), (4, .int x4), (5, .int x5), (6, .ref (ad 8 a6 0))]) : W p l e (ks_Rm 7 2 12 102) s m args below meth c H locs 1 6 (vx_MQ below (ks_Yi D cy ad En n0 o out) (ks_X D cy ad En n0 o out) args s 2 12 (ks_F n0)) (F0 m 58 ls [.int xs0]) := by
  obtain ⟨hx, hb, hml, hr, hown, hts, hlocks, hG, hU0, hE⟩ := id C
  have hK := hU0.2.2
  unfold f_X4_request_58 at hf
  refine lv_istore (lv' := [(7, .int xs0), (0, .ref (ad 0 0 0)), (2, .int x2), (3, .int x3), (4, .int x4), (5, .int x5), (6, .ref (ad 8 a6 0))]) hx hb dX4_request_58 hl (by decide) rfl (fun ls hl => ?_)
  refine lv_iload hx hb dX4_request_60 (lv_at hl 0 rfl) ?_
  refine lv_if_eq (tgt := 78) hx hb dX4_request_62 (by decide) (fun c13 => ?_) (fun c13 => ?_)
  · rw [if_pos c13] at hf
    exact ks_throw (ik := 65) (ic := 67) 2 hlt hN hexc C rfl (by decide +kernel) (by decide +kernel) (by decide +kernel) (by decide +kernel) ks_at2 ks_ag2 hf hW hS hl.1 dX4_request_78 dX4_request_81 dX4_request_82 dX4_request_85 ⟨(Nat.le_of_ble_eq_true rfl), (Nat.le_of_ble_eq_true rfl), (Nat.le_of_ble_eq_true rfl), (Nat.le_of_ble_eq_true rfl)⟩ (Nat.le_of_ble_eq_true rfl) (Nat.le_of_ble_eq_true rfl)
  · rw [if_neg c13] at hf
    refine lv_aload hx hb dX4_request_65 (lv_at hl 6 rfl) ?_
    refine lv_iload_n hx hb dX4_request_67 rfl (lv_at hl 2 rfl) ?_
    refine lv_iload hx hb dX4_request_68 (lv_at hl 4 rfl) ?_
    refine lv_iload hx hb dX4_request_70 (lv_at hl 5 rfl) ?_
    obtain ⟨⟨r16, s15⟩, hc14, hf⟩ := ks_bind hf
    try dsimp only at hf
    refine ks_calli (va_runV (As := [.int x2, .int x4, .int x5]) (rest := []) ⟨hx, hb, hml, hown, hts⟩ (m_X3_hasPlaceFor l D cy ad En n0 hG hE o v6 hc14) (cwV 3 hts gX4_request_X3_hasPlaceFor rfl rfl rfl (by decide +kernel) ⟨(Nat.le_of_ble_eq_true rfl), (Nat.le_of_ble_eq_true rfl)⟩) ⟨ks_U.blind, ks_recv hK hW v6 (ks_c8 cy ad o a6 0 _) rfl, fun U hU hWm => ⟨rfl, hU0.now hS hW hWm.alike hU⟩⟩ rfl rfl hl.1 rfl (lv_room (Nat.le_of_ble_eq_true rfl)) dX4_request_72 ⟨(Nat.le_of_ble_eq_true rfl), (Nat.le_of_ble_eq_true rfl)⟩) hS (fun H locs hW hS => ?_)
    refine lv_if_ne (tgt := 86) hx hb dX4_request_75 (by decide) (fun c17 => ?_) (fun c17 => ?_)
    · rw [if_neg c17] at hf
      refine lv_aload hx hb dX4_request_86 (lv_at hl 6 rfl) ?_
      refine lv_iload_n hx hb dX4_request_88 rfl (lv_at hl 2 rfl) ?_
      refine lv_iload_n hx hb dX4_request_89 rfl (lv_at hl 3 rfl) ?_
      refine lv_iload hx hb dX4_request_90 (lv_at hl 4 rfl) ?_
      refine lv_iload hx hb dX4_request_92 (lv_at hl 5 rfl) ?_
      obtain ⟨⟨r20, s19⟩, hc18, hf⟩ := ks_bind hf
      try dsimp only at hf
      refine ks_calli (va_runV (As := [.int x2, .int x3, .int x4, .int x5]) (rest := []) ⟨hx, hb, hml, hown, hts⟩ (m_X3_addRequest l D cy ad En n0 hG hE o v6 hc18) (cwV 4 hts gX4_request_X3_addRequest rfl rfl rfl (by decide +kernel) ⟨(Nat.le_of_ble_eq_true rfl), (Nat.le_of_ble_eq_true rfl)⟩) ⟨ks_U.blind, ks_recv hK hW v6 (ks_c8 cy ad o a6 0 _) rfl, fun U hU hWm => ⟨rfl, hU0.now hS hW hWm.alike hU⟩⟩ rfl rfl hl.1 rfl (lv_room (Nat.le_of_ble_eq_true rfl)) dX4_request_94 ⟨(Nat.le_of_ble_eq_true rfl), (Nat.le_of_ble_eq_true rfl)⟩) hS (fun H locs hW hS => ?_)
      refine lv_istore (lv' := [(8, .int r20), (7, .int xs0), (0, .ref (ad 0 0 0)), (2, .int x2), (3, .int x3), (4, .int x4), (5, .int x5), (6, .ref (ad 8 a6 0))]) hx hb dX4_request_97 hl (by decide) rfl (fun ls hl => ?_)
      refine lv_aload_n hx hb dX4_request_99 rfl (lv_at hl 2 rfl) ?_
      obtain ⟨s22, hc21, hf⟩ := ks_bind hf
      try dsimp only at hf
      refine ks_callv (va_runV (As := []) (rest := []) ⟨hx, hb, hml, hown, hts⟩ (m_X4_measure l D cy ad En n0 hG hE o hc21) (cwV 0 hts gX4_request_X4_measure rfl rfl rfl (by decide +kernel) ⟨(Nat.le_of_ble_eq_true rfl), (Nat.le_of_ble_eq_true rfl)⟩) ⟨ks_U.blind, ks_recv hK hW (ks_v0 (i := 0) (j := 0) (hE 0 rfl)) (ks_c0 cy ad o 0 0 _) rfl, fun U hU hWm => ⟨rfl, hU0.now hS hW hWm.alike hU⟩⟩ rfl rfl hl.1 rfl (lv_room (Nat.le_of_ble_eq_true rfl)) dX4_request_100 ⟨(Nat.le_of_ble_eq_true rfl), (Nat.le_of_ble_eq_true rfl)⟩) hS (fun H locs hW hS => ?_)
      refine lv_iload hx hb dX4_request_103 (lv_at hl 0 rfl) ?_
      exact ks_yiret (Nat.le_of_ble_eq_true rfl) (Nat.le_of_ble_eq_true rfl) C hf hW hS dX4_request_105
    · rw [if_pos c17] at hf
      exact ks_throw (ik := 65) (ic := 67) 2 hlt hN hexc C rfl (by decide +kernel) (by decide +kernel) (by decide +kernel) (by decide +kernel) ks_at2 ks_ag2 hf hW hS hl.1 dX4_request_78 dX4_request_81 dX4_request_82 dX4_request_85 ⟨(Nat.le_of_ble_eq_true rfl), (Nat.le_of_ble_eq_true rfl), (Nat.le_of_ble_eq_true rfl), (Nat.le_of_ble_eq_true rfl)⟩ (Nat.le_of_ble_eq_true rfl) (Nat.le_of_ble_eq_true rfl)
set_option maxHeartbeats 4000000 in
set_option maxRecDepth 100000 in
theorem t_X4_request_57 {p : Program} {l : Launch} {e : Env} {s : State} {m : MethodId} {args : Array Value} {below : List Frame} {meth : Method} {c : Code} {D : va_G} {cy : Nat → ClassId} {ad : ks_A} {En : Nat → Prop} {n0 : Nat → Prop} {σ0 : ks_S} {o : Int64} {N : Nat} {out : ((Nat ⊕ Int32) × ks_S)} (C : ks_M p s m args meth c D cy ad En (fun k => ks_g k = 0) n0 σ0 o wsX4_request cX4_request RX4 9 (some .int)) (hlt : l.stackTraces = false) (hN : ks_N n0 s) (hexc : ∀ x ∈ c.exceptionTable.toList, False) {σ : ks_S} {x2 : Int32} {x3 : Int32} {x4 : Int32} {x5 : Int32} {a6 : Nat} (v6 : ks_v En 8 a6 0) (hf : f_X4_request_57 N σ x2 x3 x4 x5 a6 = some out) {H : Heap} {locs : List Loc} {ls : Array Slot} (hW : ks_W D cy ad En σ o H) (hS : va_S (ks_F n0) s.heap H locs) (hl : lv_has ls 9 [(0, .ref (ad 0 0 0)), (2, .int x2), (3, .int x3), (4, .int x4), (5, .int x5), (6, .ref (ad 8 a6 0))]) : W p l e (ks_Rm 7 2 12 102) s m args below meth c H locs 1 6 (vx_MQ below (ks_Yi D cy ad En n0 o out) (ks_X D cy ad En n0 o out) args s 2 12 (ks_F n0)) (F0 m 57 ls []) := by
  obtain ⟨hx, hb, hml, hr, hown, hts, hlocks, hG, hU0, hE⟩ := id C
  have hK := hU0.2.2
  unfold f_X4_request_57 at hf
  refine lv_iconst (v := 0) hx hb dX4_request_57 (by decide) ?_
  exact t_X4_request_58 C hlt hN hexc v6 hf hW hS (lv_sub hl [0, 1, 2, 3, 4, 5] rfl)
set_option maxHeartbeats 4000000 in
set_option maxRecDepth 100000 in
theorem t_X4_request {p : Program} {l : Launch} {e : Env} {s : State} {m : MethodId} {args : Array Value} {below : List Frame} {meth : Method} {c : Code} {D : va_G} {cy : Nat → ClassId} {ad : ks_A} {En : Nat → Prop} {n0 : Nat → Prop} {σ0 : ks_S} {o : Int64} {N : Nat} {out : ((Nat ⊕ Int32) × ks_S)} (C : ks_M p s m args meth c D cy ad En (fun k => ks_g k = 0) n0 σ0 o wsX4_request cX4_request RX4 9 (some .int)) (hlt : l.stackTraces = false) (hN : ks_N n0 s) (hexc : ∀ x ∈ c.exceptionTable.toList, False) {σ : ks_S} {x1 : Int32} {x2 : Int32} {x3 : Int32} {x4 : Int32} {x5 : Int32}  (hf : f_X4_request N σ x1 x2 x3 x4 x5 = some out) {H : Heap} {locs : List Loc} {ls : Array Slot} (hW : ks_W D cy ad En σ o H) (hS : va_S (ks_F n0) s.heap H locs) (hl : lv_has ls 9 [(0, .ref (ad 0 0 0)), (1, .int x1), (2, .int x2), (3, .int x3), (4, .int x4), (5, .int x5)]) : W p l e (ks_Rm 7 2 12 102) s m args below meth c H locs 0 0 (vx_MQ below (ks_Yi D cy ad En n0 o out) (ks_X D cy ad En n0 o out) args s 2 12 (ks_F n0)) (F0 m 0 ls []) := by
  obtain ⟨hx, hb, hml, hr, hown, hts, hlocks, hG, hU0, hE⟩ := id C
  have hK := hU0.2.2
  unfold f_X4_request at hf
  refine lv_aload_n hx hb dX4_request_0 rfl (lv_at hl 0 rfl) ?_
  refine lv_iload_n hx hb dX4_request_1 rfl (lv_at hl 1 rfl) ?_
  obtain ⟨⟨e4 | ⟨r3, r3j⟩, s2⟩, hc1, hf⟩ := ks_bind hf
  · exact ks_xthrow (vx_runV (As := [.int x1]) (rest := []) ⟨hx, hb, hml, hown, hts⟩ (m_X4_taskAt l hlt D cy ad En n0 hG hE o hc1) (cwV 1 hts gX4_request_X4_taskAt rfl rfl rfl (by decide +kernel) ⟨(Nat.le_of_ble_eq_true rfl), (Nat.le_of_ble_eq_true rfl)⟩) ⟨ks_UN.blind, ks_recv hK hW (ks_v0 (i := 0) (j := 0) (hE 0 rfl)) (ks_c0 cy ad o 0 0 _) rfl, fun U hU hWm => ⟨rfl, ks_UN.now hU0 hN hS hW hWm.alike hU⟩⟩ rfl rfl hl.1 rfl (lv_room (Nat.le_of_ble_eq_true rfl)) dX4_request_2 ⟨(Nat.le_of_ble_eq_true rfl), (Nat.le_of_ble_eq_true rfl)⟩) ks_nor hS C hexc hf (Nat.le_of_ble_eq_true rfl) (Nat.le_of_ble_eq_true rfl)
  try dsimp only at hf
  refine ks_xcallr (vx_runV (As := [.int x1]) (rest := []) ⟨hx, hb, hml, hown, hts⟩ (m_X4_taskAt l hlt D cy ad En n0 hG hE o hc1) (cwV 1 hts gX4_request_X4_taskAt rfl rfl rfl (by decide +kernel) ⟨(Nat.le_of_ble_eq_true rfl), (Nat.le_of_ble_eq_true rfl)⟩) ⟨ks_UN.blind, ks_recv hK hW (ks_v0 (i := 0) (j := 0) (hE 0 rfl)) (ks_c0 cy ad o 0 0 _) rfl, fun U hU hWm => ⟨rfl, ks_UN.now hU0 hN hS hW hWm.alike hU⟩⟩ rfl rfl hl.1 rfl (lv_room (Nat.le_of_ble_eq_true rfl)) dX4_request_2 ⟨(Nat.le_of_ble_eq_true rfl), (Nat.le_of_ble_eq_true rfl)⟩) hS (fun H locs hv6 hW hS => ?_)
  obtain rfl : r3j = 0 := ks_j0 hv6 rfl
  refine lv_astore (lv' := [(6, .ref (ad 8 r3 0)), (0, .ref (ad 0 0 0)), (1, .int x1), (2, .int x2), (3, .int x3), (4, .int x4), (5, .int x5)]) hx hb dX4_request_5 hl (by decide) rfl (fun ls hl => ?_)
  refine lv_aload_n hx hb dX4_request_7 rfl (lv_at hl 1 rfl) ?_
  refine va_get (D := D) (ci := 4) (v := .int (s2 0 0 0 6)) (C := RX4) (T := TX4) (N := 8) hx hb hts in_X4_request_4 hown hK (ks_P1 hW (ks_v0 (i := 0) (j := 0) (hE 0 rfl)) (ks_c0 cy ad o 0 0 _)) 0 rfl rfl 6 (by decide) (hts (.fieldLink RX4 51 "SpinKernel" "sealed" "Z") (by decide +kernel)) (fun _ h => h) rfl dX4_request_8 ?_
  refine lv_if_ne (tgt := 24) hx hb dX4_request_11 (by decide) (fun c7 => ?_) (fun c7 => ?_)
  · rw [if_neg c7] at hf
    exact ks_throw (ik := 58) (ic := 60) 1 hlt hN hexc C rfl (by decide +kernel) (by decide +kernel) (by decide +kernel) (by decide +kernel) ks_at1 ks_ag1 hf hW hS hl.1 dX4_request_24 dX4_request_27 dX4_request_28 dX4_request_31 ⟨(Nat.le_of_ble_eq_true rfl), (Nat.le_of_ble_eq_true rfl), (Nat.le_of_ble_eq_true rfl), (Nat.le_of_ble_eq_true rfl)⟩ (Nat.le_of_ble_eq_true rfl) (Nat.le_of_ble_eq_true rfl)
  · rw [if_pos c7] at hf
    refine lv_aload hx hb dX4_request_14 (lv_at hl 0 rfl) ?_
    refine va_get (D := D) (ci := 3) (v := .int (s2 8 r3 0 7)) (C := RX3) (T := TX3) (N := 10) hx hb hts in_X4_request_3 hown hK (ks_P1 hW hv6 (ks_c8 cy ad o r3 0 _)) 0 rfl rfl 7 (by decide) (hts (.fieldLink RX4 79 "SpinKernel$Task" "count" "I") (by decide +kernel)) (fun _ h => h) rfl dX4_request_16 ?_
    refine lv_bipush (v := 6) hx hb dX4_request_19 (by decide) ?_
    refine lv_icmp_lt (tgt := 32) hx hb dX4_request_21 (by decide) (fun c8 => ?_) (fun c8 => ?_)
    · rw [if_pos c8] at hf
      refine lv_iload_n hx hb dX4_request_32 rfl (lv_at hl 4 rfl) ?_
      refine lv_iconst (v := 0) hx hb dX4_request_33 (by decide) ?_
      refine lv_bipush (v := 7) hx hb dX4_request_34 (by decide) ?_
      obtain ⟨⟨r11, s10⟩, hc9, hf⟩ := ks_bind hf
      try dsimp only at hf
      refine ks_calli (va_runS (As := [.int x3, .int 0, .int 7]) (rest := []) ⟨hx, hb, hml, hown, hts⟩ (m_X4_isWithin l D cy ad En n0 hG hE o hc9) (va_cwS 3 hts gX4_request_X4_isWithin rfl rfl rfl (by decide +kernel) ⟨(Nat.le_of_ble_eq_true rfl), (Nat.le_of_ble_eq_true rfl)⟩) ⟨ks_U.blind, fun U hU hWm => ⟨rfl, hU0.now hS hW hWm.alike hU⟩⟩ rfl rfl hl.1 rfl (lv_room (Nat.le_of_ble_eq_true rfl)) dX4_request_36 ⟨(Nat.le_of_ble_eq_true rfl), (Nat.le_of_ble_eq_true rfl)⟩) hS (fun H locs hW hS => ?_)
      refine lv_if_eq (tgt := 57) hx hb dX4_request_39 (by decide) (fun c12 => ?_) (fun c12 => ?_)
      · rw [if_pos c12] at hf
        exact t_X4_request_57 C hlt hN hexc hv6 hf hW hS (lv_sub hl [1, 3, 4, 5, 6, 0] rfl)
      · rw [if_neg c12] at hf
        refine lv_iload hx hb dX4_request_42 (lv_at hl 5 rfl) ?_
        refine lv_iconst (v := 1) hx hb dX4_request_44 (by decide) ?_
        refine lv_bipush (v := 100) hx hb dX4_request_45 (by decide) ?_
        obtain ⟨⟨r26, s25⟩, hc24, hf⟩ := ks_bind hf
        try dsimp only at hf
        refine ks_calli (va_runS (As := [.int x4, .int 1, .int 100]) (rest := []) ⟨hx, hb, hml, hown, hts⟩ (m_X4_isWithin l D cy ad En n0 hG hE o hc24) (va_cwS 3 hts gX4_request_X4_isWithin rfl rfl rfl (by decide +kernel) ⟨(Nat.le_of_ble_eq_true rfl), (Nat.le_of_ble_eq_true rfl)⟩) ⟨ks_U.blind, fun U hU hWm => ⟨rfl, hU0.now hS hW hWm.alike hU⟩⟩ rfl rfl hl.1 rfl (lv_room (Nat.le_of_ble_eq_true rfl)) dX4_request_47 ⟨(Nat.le_of_ble_eq_true rfl), (Nat.le_of_ble_eq_true rfl)⟩) hS (fun H locs hW hS => ?_)
        refine lv_if_eq (tgt := 57) hx hb dX4_request_50 (by decide) (fun c27 => ?_) (fun c27 => ?_)
        · rw [if_pos c27] at hf
          exact t_X4_request_57 C hlt hN hexc hv6 hf hW hS (lv_sub hl [1, 3, 4, 5, 6, 0] rfl)
        · rw [if_neg c27] at hf
          refine lv_iconst (v := 1) hx hb dX4_request_53 (by decide) ?_
          refine lv_goto (tgt := 58) hx hb dX4_request_54 (by decide) ?_
          exact t_X4_request_58 C hlt hN hexc hv6 hf hW hS (lv_sub hl [1, 3, 4, 5, 6, 0] rfl)
    · rw [if_neg c8] at hf
      exact ks_throw (ik := 58) (ic := 60) 1 hlt hN hexc C rfl (by decide +kernel) (by decide +kernel) (by decide +kernel) (by decide +kernel) ks_at1 ks_ag1 hf hW hS hl.1 dX4_request_24 dX4_request_27 dX4_request_28 dX4_request_31 ⟨(Nat.le_of_ble_eq_true rfl), (Nat.le_of_ble_eq_true rfl), (Nat.le_of_ble_eq_true rfl), (Nat.le_of_ble_eq_true rfl)⟩ (Nat.le_of_ble_eq_true rfl) (Nat.le_of_ble_eq_true rfl)
set_option maxHeartbeats 4000000 in
set_option maxRecDepth 100000 in
theorem m_X4_request (l : Launch) (hlt : l.stackTraces = false) (D : va_G) (cy : Nat → ClassId) (ad : ks_A) (En : Nat → Prop) (n0 : Nat → Prop) (hG : ks_G ad En n0) (hE : ∀ k, ks_g k = 0 → En k) (o : Int64) {N : Nat} {σ : ks_S} {x1 : Int32} {x2 : Int32} {x3 : Int32} {x4 : Int32} {x5 : Int32}  {out : ((Nat ⊕ Int32) × ks_S)} (hf : f_X4_request N σ x1 x2 x3 x4 x5 = some out) : vx_Met l yX4_request wsX4_request (ks_Rm 7 2 12 102) (va_Pc [.ref (ad 0 0 0), .int x1, .int x2, .int x3, .int x4, .int x5] (ks_UN D cy ad En n0 σ o)) (ks_Yi D cy ad En n0 o out) (ks_X D cy ad En n0 o out) 2 12 (ks_F n0) := by
  refine vx_ofW (cc := cX4_request) (maxL := 9) (ret := some .int) (by decide) rfl ?_
  intro p e s m args below meth c s₁ B hml hexc hv
  obtain ⟨rfl, hU, hN⟩ := hv
  have hl := lv_entry ([.ref (ad 0 0 0), .int x1, .int x2, .int x3, .int x4, .int x5]) (n := 9) (Nat.le_of_ble_eq_true rfl)
  rw [lg_entry_eq]
  generalize (lg_sl ([.ref (ad 0 0 0), .int x1, .int x2, .int x3, .int x4, .int x5]) ++ List.replicate (9 - (lg_sl ([.ref (ad 0 0 0), .int x1, .int x2, .int x3, .int x4, .int x5])).length) Slot.unset).toArray = ls at hl ⊢
  exact t_X4_request ⟨B.exec, B.bytes, hml, B.returns, findClass_of_methodNamed B.named, atoms_spec (ws := wsX4_request) B.pre, B.notSynchronized, hG, hU, hE⟩ hlt hN hexc  hf hU.2.1 va_S.rf hl

/-! SpinKernel.take(I)V -/
def f_X4_take (N : Nat) (σ : ks_S) (x1 : Int32) : Option ((Nat ⊕ Unit) × ks_S) :=
  ((f_X4_taskAt σ x1).bind fun q5 => match q5 with | (.inl e4, s2) => some (.inl e4, s2) | (.inr (r3, r3j), s2) => (if ((s2 0 0 0 6)) = 0 then ((f_X4_measure N ((ks_up s2 8 r3 0 0 0))).bind fun s9 => some (.inr (), s9)) else some (.inl 1, s2)))
theorem in_X4_take_3 : ∀ w ∈ wsX30, w ∈ wsX4_take := by decide +kernel
theorem in_X4_take_4 : ∀ w ∈ wsX40, w ∈ wsX4_take := by decide +kernel
set_option maxHeartbeats 4000000 in
set_option maxRecDepth 100000 in
theorem t_X4_take {p : Program} {l : Launch} {e : Env} {s : State} {m : MethodId} {args : Array Value} {below : List Frame} {meth : Method} {c : Code} {D : va_G} {cy : Nat → ClassId} {ad : ks_A} {En : Nat → Prop} {n0 : Nat → Prop} {σ0 : ks_S} {o : Int64} {N : Nat} {out : ((Nat ⊕ Unit) × ks_S)} (C : ks_M p s m args meth c D cy ad En (fun k => ks_g k = 0) n0 σ0 o wsX4_take cX4_take RX4 3 (none)) (hlt : l.stackTraces = false) (hN : ks_N n0 s) (hexc : ∀ x ∈ c.exceptionTable.toList, False) {σ : ks_S} {x1 : Int32}  (hf : f_X4_take N σ x1 = some out) {H : Heap} {locs : List Loc} {ls : Array Slot} (hW : ks_W D cy ad En σ o H) (hS : va_S (ks_F n0) s.heap H locs) (hl : lv_has ls 3 [(0, .ref (ad 0 0 0)), (1, .int x1)]) : W p l e (ks_Rm 7 2 12 102) s m args below meth c H locs 0 0 (vx_MQ below (ks_Yv D cy ad En n0 o out) (ks_X D cy ad En n0 o out) args s 2 12 (ks_F n0)) (F0 m 0 ls []) := by
  obtain ⟨hx, hb, hml, hr, hown, hts, hlocks, hG, hU0, hE⟩ := id C
  have hK := hU0.2.2
  unfold f_X4_take at hf
  refine lv_aload_n hx hb dX4_take_0 rfl (lv_at hl 0 rfl) ?_
  refine lv_iload_n hx hb dX4_take_1 rfl (lv_at hl 1 rfl) ?_
  obtain ⟨⟨e4 | ⟨r3, r3j⟩, s2⟩, hc1, hf⟩ := ks_bind hf
  · exact ks_xthrow (vx_runV (As := [.int x1]) (rest := []) ⟨hx, hb, hml, hown, hts⟩ (m_X4_taskAt l hlt D cy ad En n0 hG hE o hc1) (cwV 1 hts gX4_take_X4_taskAt rfl rfl rfl (by decide +kernel) ⟨(Nat.le_of_ble_eq_true rfl), (Nat.le_of_ble_eq_true rfl)⟩) ⟨ks_UN.blind, ks_recv hK hW (ks_v0 (i := 0) (j := 0) (hE 0 rfl)) (ks_c0 cy ad o 0 0 _) rfl, fun U hU hWm => ⟨rfl, ks_UN.now hU0 hN hS hW hWm.alike hU⟩⟩ rfl rfl hl.1 rfl (lv_room (Nat.le_of_ble_eq_true rfl)) dX4_take_2 ⟨(Nat.le_of_ble_eq_true rfl), (Nat.le_of_ble_eq_true rfl)⟩) ks_nor hS C hexc hf (Nat.le_of_ble_eq_true rfl) (Nat.le_of_ble_eq_true rfl)
  try dsimp only at hf
  refine ks_xcallr (vx_runV (As := [.int x1]) (rest := []) ⟨hx, hb, hml, hown, hts⟩ (m_X4_taskAt l hlt D cy ad En n0 hG hE o hc1) (cwV 1 hts gX4_take_X4_taskAt rfl rfl rfl (by decide +kernel) ⟨(Nat.le_of_ble_eq_true rfl), (Nat.le_of_ble_eq_true rfl)⟩) ⟨ks_UN.blind, ks_recv hK hW (ks_v0 (i := 0) (j := 0) (hE 0 rfl)) (ks_c0 cy ad o 0 0 _) rfl, fun U hU hWm => ⟨rfl, ks_UN.now hU0 hN hS hW hWm.alike hU⟩⟩ rfl rfl hl.1 rfl (lv_room (Nat.le_of_ble_eq_true rfl)) dX4_take_2 ⟨(Nat.le_of_ble_eq_true rfl), (Nat.le_of_ble_eq_true rfl)⟩) hS (fun H locs hv6 hW hS => ?_)
  obtain rfl : r3j = 0 := ks_j0 hv6 rfl
  refine lv_astore_n (lv' := [(2, .ref (ad 8 r3 0)), (0, .ref (ad 0 0 0)), (1, .int x1)]) hx hb dX4_take_5 rfl hl (by decide) rfl (fun ls hl => ?_)
  refine lv_aload_n hx hb dX4_take_6 rfl (lv_at hl 1 rfl) ?_
  refine va_get (D := D) (ci := 4) (v := .int (s2 0 0 0 6)) (C := RX4) (T := TX4) (N := 8) hx hb hts in_X4_take_4 hown hK (ks_P1 hW (ks_v0 (i := 0) (j := 0) (hE 0 rfl)) (ks_c0 cy ad o 0 0 _)) 0 rfl rfl 6 (by decide) (hts (.fieldLink RX4 51 "SpinKernel" "sealed" "Z") (by decide +kernel)) (fun _ h => h) rfl dX4_take_7 ?_
  refine lv_if_eq (tgt := 21) hx hb dX4_take_10 (by decide) (fun c7 => ?_) (fun c7 => ?_)
  · rw [if_pos c7] at hf
    refine lv_aload_n hx hb dX4_take_21 rfl (lv_at hl 0 rfl) ?_
    refine lv_iconst (v := 0) hx hb dX4_take_22 (by decide) ?_
    refine ks_put (D := D) (ci := 3) (C := RX3) (T := TX3) (N := 10) hx hb hts in_X4_take_3 tyX3 tyX3_ok nmX3 hown hK hG hW hS hv6 0 (v := 0) (ks_c8 cy ad o r3 0 _) (ks_c8s0 cy ad o r3 0 _ _) rfl (by decide) (hts (.fieldLink RX4 55 "SpinKernel$Task" "isThere" "Z") (by decide +kernel)) rfl (ty := .boolean) (by decide +kernel) rfl rfl (Nat.le_of_ble_eq_true rfl) dX4_take_23 (fun H locs hW hS => ?_)
    refine lv_aload_n hx hb dX4_take_26 rfl (lv_at hl 1 rfl) ?_
    obtain ⟨s9, hc8, hf⟩ := ks_bind hf
    try dsimp only at hf
    refine ks_callv (va_runV (As := []) (rest := []) ⟨hx, hb, hml, hown, hts⟩ (m_X4_measure l D cy ad En n0 hG hE o hc8) (cwV 0 hts gX4_take_X4_measure rfl rfl rfl (by decide +kernel) ⟨(Nat.le_of_ble_eq_true rfl), (Nat.le_of_ble_eq_true rfl)⟩) ⟨ks_U.blind, ks_recv hK hW (ks_v0 (i := 0) (j := 0) (hE 0 rfl)) (ks_c0 cy ad o 0 0 _) rfl, fun U hU hWm => ⟨rfl, hU0.now hS hW hWm.alike hU⟩⟩ rfl rfl hl.1 rfl (lv_room (Nat.le_of_ble_eq_true rfl)) dX4_take_27 ⟨(Nat.le_of_ble_eq_true rfl), (Nat.le_of_ble_eq_true rfl)⟩) hS (fun H locs hW hS => ?_)
    exact ks_yvret (Nat.le_of_ble_eq_true rfl) (Nat.le_of_ble_eq_true rfl) C hf hW hS dX4_take_30
  · rw [if_neg c7] at hf
    exact ks_throw (ik := 58) (ic := 60) 1 hlt hN hexc C rfl (by decide +kernel) (by decide +kernel) (by decide +kernel) (by decide +kernel) ks_at1 ks_ag1 hf hW hS hl.1 dX4_take_13 dX4_take_16 dX4_take_17 dX4_take_20 ⟨(Nat.le_of_ble_eq_true rfl), (Nat.le_of_ble_eq_true rfl), (Nat.le_of_ble_eq_true rfl), (Nat.le_of_ble_eq_true rfl)⟩ (Nat.le_of_ble_eq_true rfl) (Nat.le_of_ble_eq_true rfl)
set_option maxHeartbeats 4000000 in
set_option maxRecDepth 100000 in
theorem m_X4_take (l : Launch) (hlt : l.stackTraces = false) (D : va_G) (cy : Nat → ClassId) (ad : ks_A) (En : Nat → Prop) (n0 : Nat → Prop) (hG : ks_G ad En n0) (hE : ∀ k, ks_g k = 0 → En k) (o : Int64) {N : Nat} {σ : ks_S} {x1 : Int32}  {out : ((Nat ⊕ Unit) × ks_S)} (hf : f_X4_take N σ x1 = some out) : vx_Met l yX4_take wsX4_take (ks_Rm 7 2 12 102) (va_Pc [.ref (ad 0 0 0), .int x1] (ks_UN D cy ad En n0 σ o)) (ks_Yv D cy ad En n0 o out) (ks_X D cy ad En n0 o out) 2 12 (ks_F n0) := by
  refine vx_ofW (cc := cX4_take) (maxL := 3) (ret := none) (by decide) rfl ?_
  intro p e s m args below meth c s₁ B hml hexc hv
  obtain ⟨rfl, hU, hN⟩ := hv
  have hl := lv_entry ([.ref (ad 0 0 0), .int x1]) (n := 3) (Nat.le_of_ble_eq_true rfl)
  rw [lg_entry_eq]
  generalize (lg_sl ([.ref (ad 0 0 0), .int x1]) ++ List.replicate (3 - (lg_sl ([.ref (ad 0 0 0), .int x1])).length) Slot.unset).toArray = ls at hl ⊢
  exact t_X4_take ⟨B.exec, B.bytes, hml, B.returns, findClass_of_methodNamed B.named, atoms_spec (ws := wsX4_take) B.pre, B.notSynchronized, hG, hU, hE⟩ hlt hN hexc  hf hU.2.1 va_S.rf hl

/-! SpinKernel.group(I)I -/
def f_X4_group (σ : ks_S) (x1 : Int32) : Option ((Nat ⊕ Int32) × ks_S) :=
  ((f_X4_isWithin σ x1 0 7).bind fun (r3, s2) => (if r3 = 0 then some (.inl 0, s2) else (if ks_in x1 8 = true then some (.inr ((s2 3 0 0 x1.toNatClampNeg)), s2) else none)))
theorem in_X4_group_4 : ∀ w ∈ wsX40, w ∈ wsX4_group := by decide +kernel
set_option maxHeartbeats 4000000 in
set_option maxRecDepth 100000 in
theorem t_X4_group {p : Program} {l : Launch} {e : Env} {s : State} {m : MethodId} {args : Array Value} {below : List Frame} {meth : Method} {c : Code} {D : va_G} {cy : Nat → ClassId} {ad : ks_A} {En : Nat → Prop} {n0 : Nat → Prop} {σ0 : ks_S} {o : Int64} {out : ((Nat ⊕ Int32) × ks_S)} (C : ks_M p s m args meth c D cy ad En (fun k => ks_g k = 0) n0 σ0 o wsX4_group cX4_group RX4 2 (some .int)) (hlt : l.stackTraces = false) (hN : ks_N n0 s) (hexc : ∀ x ∈ c.exceptionTable.toList, False) {σ : ks_S} {x1 : Int32}  (hf : f_X4_group σ x1 = some out) {H : Heap} {locs : List Loc} {ls : Array Slot} (hW : ks_W D cy ad En σ o H) (hS : va_S (ks_F n0) s.heap H locs) (hl : lv_has ls 2 [(0, .ref (ad 0 0 0)), (1, .int x1)]) : W p l e (ks_Rm 6 1 6 81) s m args below meth c H locs 0 0 (vx_MQ below (ks_Yi D cy ad En n0 o out) (ks_X D cy ad En n0 o out) args s 1 6 (ks_F n0)) (F0 m 0 ls []) := by
  obtain ⟨hx, hb, hml, hr, hown, hts, hlocks, hG, hU0, hE⟩ := id C
  have hK := hU0.2.2
  unfold f_X4_group at hf
  refine lv_iload_n hx hb dX4_group_0 rfl (lv_at hl 1 rfl) ?_
  refine lv_iconst (v := 0) hx hb dX4_group_1 (by decide) ?_
  refine lv_bipush (v := 7) hx hb dX4_group_2 (by decide) ?_
  obtain ⟨⟨r3, s2⟩, hc1, hf⟩ := ks_bind hf
  try dsimp only at hf
  refine ks_calli (va_runS (As := [.int x1, .int 0, .int 7]) (rest := []) ⟨hx, hb, hml, hown, hts⟩ (m_X4_isWithin l D cy ad En n0 hG hE o hc1) (va_cwS 3 hts gX4_group_X4_isWithin rfl rfl rfl (by decide +kernel) ⟨(Nat.le_of_ble_eq_true rfl), (Nat.le_of_ble_eq_true rfl)⟩) ⟨ks_U.blind, fun U hU hWm => ⟨rfl, hU0.now hS hW hWm.alike hU⟩⟩ rfl rfl hl.1 rfl (lv_room (Nat.le_of_ble_eq_true rfl)) dX4_group_4 ⟨(Nat.le_of_ble_eq_true rfl), (Nat.le_of_ble_eq_true rfl)⟩) hS (fun H locs hW hS => ?_)
  refine lv_if_ne (tgt := 18) hx hb dX4_group_7 (by decide) (fun c4 => ?_) (fun c4 => ?_)
  · rw [if_neg c4] at hf
    refine lv_aload_n hx hb dX4_group_18 rfl (lv_at hl 0 rfl) ?_
    refine va_get (D := D) (ci := 4) (v := .ref (ad 3 0 0)) (C := RX4) (T := TX4) (N := 8) hx hb hts in_X4_group_4 hown hK (ks_P1 hW (ks_v0 (i := 0) (j := 0) (hE 0 rfl)) (ks_c0 cy ad o 0 0 _)) 0 rfl rfl 2 (by decide) (hts (.fieldLink RX4 21 "SpinKernel" "leastOfGroup" "[I") (by decide +kernel)) (fun _ h => h) rfl dX4_group_19 ?_
    refine lv_iload_n hx hb dX4_group_22 rfl (lv_at hl 1 rfl) ?_
    obtain ⟨hi5, hf⟩ := ks_guard hf
    refine ks_iald hx hb hK hW (ks_v3 (i := 0) (j := 0) (hE 3 rfl)) (ks_c3 cy ad o 0 0 _) hi5 dX4_group_23 ?_
    exact ks_yiret (Nat.le_of_ble_eq_true rfl) (Nat.le_of_ble_eq_true rfl) C hf hW hS dX4_group_24
  · rw [if_pos c4] at hf
    exact ks_throw (ik := 48) (ic := 50) 0 hlt hN hexc C rfl (by decide +kernel) (by decide +kernel) (by decide +kernel) (by decide +kernel) ks_at0 ks_ag0 hf hW hS hl.1 dX4_group_10 dX4_group_13 dX4_group_14 dX4_group_17 ⟨(Nat.le_of_ble_eq_true rfl), (Nat.le_of_ble_eq_true rfl), (Nat.le_of_ble_eq_true rfl), (Nat.le_of_ble_eq_true rfl)⟩ (Nat.le_of_ble_eq_true rfl) (Nat.le_of_ble_eq_true rfl)
set_option maxHeartbeats 4000000 in
set_option maxRecDepth 100000 in
theorem m_X4_group (l : Launch) (hlt : l.stackTraces = false) (D : va_G) (cy : Nat → ClassId) (ad : ks_A) (En : Nat → Prop) (n0 : Nat → Prop) (hG : ks_G ad En n0) (hE : ∀ k, ks_g k = 0 → En k) (o : Int64) {σ : ks_S} {x1 : Int32}  {out : ((Nat ⊕ Int32) × ks_S)} (hf : f_X4_group σ x1 = some out) : vx_Met l yX4_group wsX4_group (ks_Rm 6 1 6 81) (va_Pc [.ref (ad 0 0 0), .int x1] (ks_UN D cy ad En n0 σ o)) (ks_Yi D cy ad En n0 o out) (ks_X D cy ad En n0 o out) 1 6 (ks_F n0) := by
  refine vx_ofW (cc := cX4_group) (maxL := 2) (ret := some .int) (by decide) rfl ?_
  intro p e s m args below meth c s₁ B hml hexc hv
  obtain ⟨rfl, hU, hN⟩ := hv
  have hl := lv_entry ([.ref (ad 0 0 0), .int x1]) (n := 2) (Nat.le_of_ble_eq_true rfl)
  rw [lg_entry_eq]
  generalize (lg_sl ([.ref (ad 0 0 0), .int x1]) ++ List.replicate (2 - (lg_sl ([.ref (ad 0 0 0), .int x1])).length) Slot.unset).toArray = ls at hl ⊢
  exact t_X4_group ⟨B.exec, B.bytes, hml, B.returns, findClass_of_methodNamed B.named, atoms_spec (ws := wsX4_group) B.pre, B.notSynchronized, hG, hU, hE⟩ hlt hN hexc  hf hU.2.1 va_S.rf hl

/-! SpinKernel.spin(II)I -/
def f_X4_spin (σ : ks_S) (x1 : Int32) (x2 : Int32) : Option ((Nat ⊕ Int32) × ks_S) :=
  ((f_X4_taskAt σ x1).bind fun q5 => match q5 with | (.inl e4, s2) => some (.inl e4, s2) | (.inr (r3, r3j), s2) => ((f_X4_requestAt s2 r3 x2).bind fun q11 => match q11 with | (.inl e10, s8) => some (.inl e10, s8) | (.inr (r9, r9j), s8) => some (.inr ((s8 11 r9 r9j 4)), s8)))
theorem in_X4_spin_1 : ∀ w ∈ wsX10, w ∈ wsX4_spin := by decide +kernel
set_option maxHeartbeats 4000000 in
set_option maxRecDepth 100000 in
theorem t_X4_spin {p : Program} {l : Launch} {e : Env} {s : State} {m : MethodId} {args : Array Value} {below : List Frame} {meth : Method} {c : Code} {D : va_G} {cy : Nat → ClassId} {ad : ks_A} {En : Nat → Prop} {n0 : Nat → Prop} {σ0 : ks_S} {o : Int64} {out : ((Nat ⊕ Int32) × ks_S)} (C : ks_M p s m args meth c D cy ad En (fun k => ks_g k = 0) n0 σ0 o wsX4_spin cX4_spin RX4 3 (some .int)) (hlt : l.stackTraces = false) (hN : ks_N n0 s) (hexc : ∀ x ∈ c.exceptionTable.toList, False) {σ : ks_S} {x1 : Int32} {x2 : Int32}  (hf : f_X4_spin σ x1 x2 = some out) {H : Heap} {locs : List Loc} {ls : Array Slot} (hW : ks_W D cy ad En σ o H) (hS : va_S (ks_F n0) s.heap H locs) (hl : lv_has ls 3 [(0, .ref (ad 0 0 0)), (1, .int x1), (2, .int x2)]) : W p l e (ks_Rm 7 2 12 102) s m args below meth c H locs 0 0 (vx_MQ below (ks_Yi D cy ad En n0 o out) (ks_X D cy ad En n0 o out) args s 2 12 (ks_F n0)) (F0 m 0 ls []) := by
  obtain ⟨hx, hb, hml, hr, hown, hts, hlocks, hG, hU0, hE⟩ := id C
  have hK := hU0.2.2
  unfold f_X4_spin at hf
  refine lv_aload_n hx hb dX4_spin_0 rfl (lv_at hl 0 rfl) ?_
  refine lv_iload_n hx hb dX4_spin_1 rfl (lv_at hl 1 rfl) ?_
  obtain ⟨⟨e4 | ⟨r3, r3j⟩, s2⟩, hc1, hf⟩ := ks_bind hf
  · exact ks_xthrow (vx_runV (As := [.int x1]) (rest := []) ⟨hx, hb, hml, hown, hts⟩ (m_X4_taskAt l hlt D cy ad En n0 hG hE o hc1) (cwV 1 hts gX4_spin_X4_taskAt rfl rfl rfl (by decide +kernel) ⟨(Nat.le_of_ble_eq_true rfl), (Nat.le_of_ble_eq_true rfl)⟩) ⟨ks_UN.blind, ks_recv hK hW (ks_v0 (i := 0) (j := 0) (hE 0 rfl)) (ks_c0 cy ad o 0 0 _) rfl, fun U hU hWm => ⟨rfl, ks_UN.now hU0 hN hS hW hWm.alike hU⟩⟩ rfl rfl hl.1 rfl (lv_room (Nat.le_of_ble_eq_true rfl)) dX4_spin_2 ⟨(Nat.le_of_ble_eq_true rfl), (Nat.le_of_ble_eq_true rfl)⟩) ks_nor hS C hexc hf (Nat.le_of_ble_eq_true rfl) (Nat.le_of_ble_eq_true rfl)
  try dsimp only at hf
  refine ks_xcallr (vx_runV (As := [.int x1]) (rest := []) ⟨hx, hb, hml, hown, hts⟩ (m_X4_taskAt l hlt D cy ad En n0 hG hE o hc1) (cwV 1 hts gX4_spin_X4_taskAt rfl rfl rfl (by decide +kernel) ⟨(Nat.le_of_ble_eq_true rfl), (Nat.le_of_ble_eq_true rfl)⟩) ⟨ks_UN.blind, ks_recv hK hW (ks_v0 (i := 0) (j := 0) (hE 0 rfl)) (ks_c0 cy ad o 0 0 _) rfl, fun U hU hWm => ⟨rfl, ks_UN.now hU0 hN hS hW hWm.alike hU⟩⟩ rfl rfl hl.1 rfl (lv_room (Nat.le_of_ble_eq_true rfl)) dX4_spin_2 ⟨(Nat.le_of_ble_eq_true rfl), (Nat.le_of_ble_eq_true rfl)⟩) hS (fun H locs hv6 hW hS => ?_)
  obtain rfl : r3j = 0 := ks_j0 hv6 rfl
  refine lv_iload_n hx hb dX4_spin_5 rfl (lv_at hl 2 rfl) ?_
  obtain ⟨⟨e10 | ⟨r9, r9j⟩, s8⟩, hc7, hf⟩ := ks_bind hf
  · exact ks_xthrow (vx_runS (As := [.ref (ad 8 r3 0), .int x2]) (rest := []) ⟨hx, hb, hml, hown, hts⟩ (m_X4_requestAt l hlt D cy ad En n0 hG hE o hv6 hc7) (va_cwS 2 hts gX4_spin_X4_requestAt rfl rfl rfl (by decide +kernel) ⟨(Nat.le_of_ble_eq_true rfl), (Nat.le_of_ble_eq_true rfl)⟩) ⟨ks_UN.blind, fun U hU hWm => ⟨rfl, ks_UN.now hU0 hN hS hW hWm.alike hU⟩⟩ rfl rfl hl.1 rfl (lv_room (Nat.le_of_ble_eq_true rfl)) dX4_spin_6 ⟨(Nat.le_of_ble_eq_true rfl), (Nat.le_of_ble_eq_true rfl)⟩) ks_nor hS C hexc hf (Nat.le_of_ble_eq_true rfl) (Nat.le_of_ble_eq_true rfl)
  try dsimp only at hf
  refine ks_xcallr (vx_runS (As := [.ref (ad 8 r3 0), .int x2]) (rest := []) ⟨hx, hb, hml, hown, hts⟩ (m_X4_requestAt l hlt D cy ad En n0 hG hE o hv6 hc7) (va_cwS 2 hts gX4_spin_X4_requestAt rfl rfl rfl (by decide +kernel) ⟨(Nat.le_of_ble_eq_true rfl), (Nat.le_of_ble_eq_true rfl)⟩) ⟨ks_UN.blind, fun U hU hWm => ⟨rfl, ks_UN.now hU0 hN hS hW hWm.alike hU⟩⟩ rfl rfl hl.1 rfl (lv_room (Nat.le_of_ble_eq_true rfl)) dX4_spin_6 ⟨(Nat.le_of_ble_eq_true rfl), (Nat.le_of_ble_eq_true rfl)⟩) hS (fun H locs hv12 hW hS => ?_)
  refine va_get (D := D) (ci := 1) (v := .int (s8 11 r9 r9j 4)) (C := RX1) (T := TX1) (N := 8) hx hb hts in_X4_spin_1 hown hK (ks_P1 hW hv12 (ks_c11 cy ad o r9 r9j _)) 0 rfl rfl 4 (by decide) (hts (.fieldLink RX4 94 "SpinKernel$Request" "spinBound" "I") (by decide +kernel)) (fun _ h => h) rfl dX4_spin_9 ?_
  exact ks_yiret (Nat.le_of_ble_eq_true rfl) (Nat.le_of_ble_eq_true rfl) C hf hW hS dX4_spin_12
set_option maxHeartbeats 4000000 in
set_option maxRecDepth 100000 in
theorem m_X4_spin (l : Launch) (hlt : l.stackTraces = false) (D : va_G) (cy : Nat → ClassId) (ad : ks_A) (En : Nat → Prop) (n0 : Nat → Prop) (hG : ks_G ad En n0) (hE : ∀ k, ks_g k = 0 → En k) (o : Int64) {σ : ks_S} {x1 : Int32} {x2 : Int32}  {out : ((Nat ⊕ Int32) × ks_S)} (hf : f_X4_spin σ x1 x2 = some out) : vx_Met l yX4_spin wsX4_spin (ks_Rm 7 2 12 102) (va_Pc [.ref (ad 0 0 0), .int x1, .int x2] (ks_UN D cy ad En n0 σ o)) (ks_Yi D cy ad En n0 o out) (ks_X D cy ad En n0 o out) 2 12 (ks_F n0) := by
  refine vx_ofW (cc := cX4_spin) (maxL := 3) (ret := some .int) (by decide) rfl ?_
  intro p e s m args below meth c s₁ B hml hexc hv
  obtain ⟨rfl, hU, hN⟩ := hv
  have hl := lv_entry ([.ref (ad 0 0 0), .int x1, .int x2]) (n := 3) (Nat.le_of_ble_eq_true rfl)
  rw [lg_entry_eq]
  generalize (lg_sl ([.ref (ad 0 0 0), .int x1, .int x2]) ++ List.replicate (3 - (lg_sl ([.ref (ad 0 0 0), .int x1, .int x2])).length) Slot.unset).toArray = ls at hl ⊢
  exact t_X4_spin ⟨B.exec, B.bytes, hml, B.returns, findClass_of_methodNamed B.named, atoms_spec (ws := wsX4_spin) B.pre, B.notSynchronized, hG, hU, hE⟩ hlt hN hexc  hf hU.2.1 va_S.rf hl

/-! SpinKernel.bound(II)I -/
def f_X4_bound (N : Nat) (σ : ks_S) (x1 : Int32) (x2 : Int32) : Option ((Nat ⊕ Int32) × ks_S) :=
  ((f_X4_taskAt σ x1).bind fun q5 => match q5 with | (.inl e4, s2) => some (.inl e4, s2) | (.inr (r3, r3j), s2) => (if x2 = 0 then some (.inr ((s2 8 r3 0 6)), s2) else (if x2 = 1 then ((f_X4_blockingOf N s2 r3).bind fun (r11, s10) => some (.inr r11, s10)) else (if x2 = 2 then ((f_X4_responseOf N s2 r3).bind fun (r15, s14) => some (.inr r15, s14)) else some (.inl 2, s2)))))
theorem in_X4_bound_3 : ∀ w ∈ wsX30, w ∈ wsX4_bound := by decide +kernel
set_option maxHeartbeats 4000000 in
set_option maxRecDepth 100000 in
theorem t_X4_bound {p : Program} {l : Launch} {e : Env} {s : State} {m : MethodId} {args : Array Value} {below : List Frame} {meth : Method} {c : Code} {D : va_G} {cy : Nat → ClassId} {ad : ks_A} {En : Nat → Prop} {n0 : Nat → Prop} {σ0 : ks_S} {o : Int64} {N : Nat} {out : ((Nat ⊕ Int32) × ks_S)} (C : ks_M p s m args meth c D cy ad En (fun k => ks_g k = 0) n0 σ0 o wsX4_bound cX4_bound RX4 4 (some .int)) (hlt : l.stackTraces = false) (hN : ks_N n0 s) (hexc : ∀ x ∈ c.exceptionTable.toList, False) {σ : ks_S} {x1 : Int32} {x2 : Int32}  (hf : f_X4_bound N σ x1 x2 = some out) {H : Heap} {locs : List Loc} {ls : Array Slot} (hW : ks_W D cy ad En σ o H) (hS : va_S (ks_F n0) s.heap H locs) (hl : lv_has ls 4 [(0, .ref (ad 0 0 0)), (1, .int x1), (2, .int x2)]) : W p l e (ks_Rm 7 2 12 102) s m args below meth c H locs 0 0 (vx_MQ below (ks_Yi D cy ad En n0 o out) (ks_X D cy ad En n0 o out) args s 2 12 (ks_F n0)) (F0 m 0 ls []) := by
  obtain ⟨hx, hb, hml, hr, hown, hts, hlocks, hG, hU0, hE⟩ := id C
  have hK := hU0.2.2
  unfold f_X4_bound at hf
  refine lv_aload_n hx hb dX4_bound_0 rfl (lv_at hl 0 rfl) ?_
  refine lv_iload_n hx hb dX4_bound_1 rfl (lv_at hl 1 rfl) ?_
  obtain ⟨⟨e4 | ⟨r3, r3j⟩, s2⟩, hc1, hf⟩ := ks_bind hf
  · exact ks_xthrow (vx_runV (As := [.int x1]) (rest := []) ⟨hx, hb, hml, hown, hts⟩ (m_X4_taskAt l hlt D cy ad En n0 hG hE o hc1) (cwV 1 hts gX4_bound_X4_taskAt rfl rfl rfl (by decide +kernel) ⟨(Nat.le_of_ble_eq_true rfl), (Nat.le_of_ble_eq_true rfl)⟩) ⟨ks_UN.blind, ks_recv hK hW (ks_v0 (i := 0) (j := 0) (hE 0 rfl)) (ks_c0 cy ad o 0 0 _) rfl, fun U hU hWm => ⟨rfl, ks_UN.now hU0 hN hS hW hWm.alike hU⟩⟩ rfl rfl hl.1 rfl (lv_room (Nat.le_of_ble_eq_true rfl)) dX4_bound_2 ⟨(Nat.le_of_ble_eq_true rfl), (Nat.le_of_ble_eq_true rfl)⟩) ks_nor hS C hexc hf (Nat.le_of_ble_eq_true rfl) (Nat.le_of_ble_eq_true rfl)
  try dsimp only at hf
  refine ks_xcallr (vx_runV (As := [.int x1]) (rest := []) ⟨hx, hb, hml, hown, hts⟩ (m_X4_taskAt l hlt D cy ad En n0 hG hE o hc1) (cwV 1 hts gX4_bound_X4_taskAt rfl rfl rfl (by decide +kernel) ⟨(Nat.le_of_ble_eq_true rfl), (Nat.le_of_ble_eq_true rfl)⟩) ⟨ks_UN.blind, ks_recv hK hW (ks_v0 (i := 0) (j := 0) (hE 0 rfl)) (ks_c0 cy ad o 0 0 _) rfl, fun U hU hWm => ⟨rfl, ks_UN.now hU0 hN hS hW hWm.alike hU⟩⟩ rfl rfl hl.1 rfl (lv_room (Nat.le_of_ble_eq_true rfl)) dX4_bound_2 ⟨(Nat.le_of_ble_eq_true rfl), (Nat.le_of_ble_eq_true rfl)⟩) hS (fun H locs hv6 hW hS => ?_)
  obtain rfl : r3j = 0 := ks_j0 hv6 rfl
  refine lv_astore_n (lv' := [(3, .ref (ad 8 r3 0)), (0, .ref (ad 0 0 0)), (1, .int x1), (2, .int x2)]) hx hb dX4_bound_5 rfl hl (by decide) rfl (fun ls hl => ?_)
  refine lv_iload_n hx hb dX4_bound_6 rfl (lv_at hl 3 rfl) ?_
  by_cases c7 : x2 = 0
  · rw [if_pos c7] at hf
    refine lv_tableIn (off := 25) (tgt := 32) hx hb dX4_bound_7 (by rw [c7]; decide) (by rw [c7]; decide) (by rw [c7]; decide) (by decide) ?_
    refine lv_aload_n hx hb dX4_bound_32 rfl (lv_at hl 0 rfl) ?_
    refine va_get (D := D) (ci := 3) (v := .int (s2 8 r3 0 6)) (C := RX3) (T := TX3) (N := 10) hx hb hts in_X4_bound_3 hown hK (ks_P1 hW hv6 (ks_c8 cy ad o r3 0 _)) 0 rfl rfl 6 (by decide) (hts (.fieldLink RX4 99 "SpinKernel$Task" "inflated" "I") (by decide +kernel)) (fun _ h => h) rfl dX4_bound_33 ?_
    exact ks_yiret (Nat.le_of_ble_eq_true rfl) (Nat.le_of_ble_eq_true rfl) C hf hW hS dX4_bound_36
  rw [if_neg c7] at hf
  by_cases c8 : x2 = 1
  · rw [if_pos c8] at hf
    refine lv_tableIn (off := 30) (tgt := 37) hx hb dX4_bound_7 (by rw [c8]; decide) (by rw [c8]; decide) (by rw [c8]; decide) (by decide) ?_
    refine lv_aload_n hx hb dX4_bound_37 rfl (lv_at hl 1 rfl) ?_
    refine lv_aload_n hx hb dX4_bound_38 rfl (lv_at hl 0 rfl) ?_
    obtain ⟨⟨r11, s10⟩, hc9, hf⟩ := ks_bind hf
    try dsimp only at hf
    refine ks_calli (va_runV (As := [.ref (ad 8 r3 0)]) (rest := []) ⟨hx, hb, hml, hown, hts⟩ (m_X4_blockingOf l D cy ad En n0 hG hE o hv6 hc9) (cwV 1 hts gX4_bound_X4_blockingOf rfl rfl rfl (by decide +kernel) ⟨(Nat.le_of_ble_eq_true rfl), (Nat.le_of_ble_eq_true rfl)⟩) ⟨ks_U.blind, ks_recv hK hW (ks_v0 (i := 0) (j := 0) (hE 0 rfl)) (ks_c0 cy ad o 0 0 _) rfl, fun U hU hWm => ⟨rfl, hU0.now hS hW hWm.alike hU⟩⟩ rfl rfl hl.1 rfl (lv_room (Nat.le_of_ble_eq_true rfl)) dX4_bound_39 ⟨(Nat.le_of_ble_eq_true rfl), (Nat.le_of_ble_eq_true rfl)⟩) hS (fun H locs hW hS => ?_)
    exact ks_yiret (Nat.le_of_ble_eq_true rfl) (Nat.le_of_ble_eq_true rfl) C hf hW hS dX4_bound_42
  rw [if_neg c8] at hf
  by_cases c12 : x2 = 2
  · rw [if_pos c12] at hf
    refine lv_tableIn (off := 36) (tgt := 43) hx hb dX4_bound_7 (by rw [c12]; decide) (by rw [c12]; decide) (by rw [c12]; decide) (by decide) ?_
    refine lv_aload_n hx hb dX4_bound_43 rfl (lv_at hl 1 rfl) ?_
    refine lv_aload_n hx hb dX4_bound_44 rfl (lv_at hl 0 rfl) ?_
    obtain ⟨⟨r15, s14⟩, hc13, hf⟩ := ks_bind hf
    try dsimp only at hf
    refine ks_calli (va_runV (As := [.ref (ad 8 r3 0)]) (rest := []) ⟨hx, hb, hml, hown, hts⟩ (m_X4_responseOf l D cy ad En n0 hG hE o hv6 hc13) (cwV 1 hts gX4_bound_X4_responseOf rfl rfl rfl (by decide +kernel) ⟨(Nat.le_of_ble_eq_true rfl), (Nat.le_of_ble_eq_true rfl)⟩) ⟨ks_U.blind, ks_recv hK hW (ks_v0 (i := 0) (j := 0) (hE 0 rfl)) (ks_c0 cy ad o 0 0 _) rfl, fun U hU hWm => ⟨rfl, hU0.now hS hW hWm.alike hU⟩⟩ rfl rfl hl.1 rfl (lv_room (Nat.le_of_ble_eq_true rfl)) dX4_bound_45 ⟨(Nat.le_of_ble_eq_true rfl), (Nat.le_of_ble_eq_true rfl)⟩) hS (fun H locs hW hS => ?_)
    exact ks_yiret (Nat.le_of_ble_eq_true rfl) (Nat.le_of_ble_eq_true rfl) C hf hW hS dX4_bound_48
  rw [if_neg c12] at hf
  refine lv_tableOut (tgt := 49) hx hb dX4_bound_7 (by have e0 := lv_neT c7 (show (0 : Int32).toInt = 0 by decide); have e1 := lv_neT c8 (show (1 : Int32).toInt = 1 by decide); have e2 := lv_neT c12 (show (2 : Int32).toInt = 2 by decide); omega) (by decide) ?_
  exact ks_throw (ik := 65) (ic := 67) 2 hlt hN hexc C rfl (by decide +kernel) (by decide +kernel) (by decide +kernel) (by decide +kernel) ks_at2 ks_ag2 hf hW hS hl.1 dX4_bound_49 dX4_bound_52 dX4_bound_53 dX4_bound_56 ⟨(Nat.le_of_ble_eq_true rfl), (Nat.le_of_ble_eq_true rfl), (Nat.le_of_ble_eq_true rfl), (Nat.le_of_ble_eq_true rfl)⟩ (Nat.le_of_ble_eq_true rfl) (Nat.le_of_ble_eq_true rfl)
set_option maxHeartbeats 4000000 in
set_option maxRecDepth 100000 in
theorem m_X4_bound (l : Launch) (hlt : l.stackTraces = false) (D : va_G) (cy : Nat → ClassId) (ad : ks_A) (En : Nat → Prop) (n0 : Nat → Prop) (hG : ks_G ad En n0) (hE : ∀ k, ks_g k = 0 → En k) (o : Int64) {N : Nat} {σ : ks_S} {x1 : Int32} {x2 : Int32}  {out : ((Nat ⊕ Int32) × ks_S)} (hf : f_X4_bound N σ x1 x2 = some out) : vx_Met l yX4_bound wsX4_bound (ks_Rm 7 2 12 102) (va_Pc [.ref (ad 0 0 0), .int x1, .int x2] (ks_UN D cy ad En n0 σ o)) (ks_Yi D cy ad En n0 o out) (ks_X D cy ad En n0 o out) 2 12 (ks_F n0) := by
  refine vx_ofW (cc := cX4_bound) (maxL := 4) (ret := some .int) (by decide) rfl ?_
  intro p e s m args below meth c s₁ B hml hexc hv
  obtain ⟨rfl, hU, hN⟩ := hv
  have hl := lv_entry ([.ref (ad 0 0 0), .int x1, .int x2]) (n := 4) (Nat.le_of_ble_eq_true rfl)
  rw [lg_entry_eq]
  generalize (lg_sl ([.ref (ad 0 0 0), .int x1, .int x2]) ++ List.replicate (4 - (lg_sl ([.ref (ad 0 0 0), .int x1, .int x2])).length) Slot.unset).toArray = ls at hl ⊢
  exact t_X4_bound ⟨B.exec, B.bytes, hml, B.returns, findClass_of_methodNamed B.named, atoms_spec (ws := wsX4_bound) B.pre, B.notSynchronized, hG, hU, hE⟩ hlt hN hexc  hf hU.2.1 va_S.rf hl

/-! SpinKernel.seal()I -/
def f_X4_seal_17 (N : Nat) : Nat → ks_S → Int32 → Option ((Nat ⊕ Int32) × ks_S)
  | 0, _, _ => none
  | n + 1, σ, x1 => (if 16 ≤ x1 then some (.inr ((-1)), (ks_up σ 0 0 0 6 1)) else (if ks_in x1 16 = true then (if ((σ 8 ((x1.toNatClampNeg)) 0 0)) = 0 then f_X4_seal_17 N n σ ((x1 + 1)) else (if ks_in x1 16 = true then ((f_X4_responseOf N σ ((x1.toNatClampNeg))).bind fun (r8, s7) => (if r8 = ((-1)) then some (.inr x1, s7) else f_X4_seal_17 N n s7 ((x1 + 1)))) else none)) else none))
def f_X4_seal (N : Nat) (σ : ks_S)  : Option ((Nat ⊕ Int32) × ks_S) :=
  (if ((σ 0 0 0 6)) = 0 then f_X4_seal_17 N N σ 0 else some (.inl 1, σ))
theorem in_X4_seal_3 : ∀ w ∈ wsX30, w ∈ wsX4_seal := by decide +kernel
theorem in_X4_seal_4 : ∀ w ∈ wsX40, w ∈ wsX4_seal := by decide +kernel
set_option maxHeartbeats 4000000 in
set_option maxRecDepth 100000 in
theorem t_X4_seal_17 {p : Program} {l : Launch} {e : Env} {s : State} {m : MethodId} {args : Array Value} {below : List Frame} {meth : Method} {c : Code} {D : va_G} {cy : Nat → ClassId} {ad : ks_A} {En : Nat → Prop} {n0 : Nat → Prop} {σ0 : ks_S} {o : Int64} {N : Nat} {out : ((Nat ⊕ Int32) × ks_S)} (C : ks_M p s m args meth c D cy ad En (fun k => ks_g k = 0) n0 σ0 o wsX4_seal cX4_seal RX4 2 (some .int)) (hlt : l.stackTraces = false) (hN : ks_N n0 s) (hexc : ∀ x ∈ c.exceptionTable.toList, False) : ∀ (n : Nat) (σ : ks_S) (x1 : Int32), f_X4_seal_17 N n σ x1 = some out → ∀ {H : Heap} {locs : List Loc} {ls : Array Slot}, ks_W D cy ad En σ o H → va_S (ks_F n0) s.heap H locs → lv_has ls 2 [(0, .ref (ad 0 0 0)), (1, .int x1)] → W p l e (ks_Rm 6 1 6 93) s m args below meth c H locs 0 0 (vx_MQ below (ks_Yi D cy ad En n0 o out) (ks_X D cy ad En n0 o out) args s 1 6 (ks_F n0)) (F0 m 17 ls []) := by
  obtain ⟨hx, hb, hml, hr, hown, hts, hlocks, hG, hU0, hE⟩ := id C
  have hK := hU0.2.2
  intro n
  induction n with
  | zero => intro σ x1; intro  hf; exact absurd hf (by simp [f_X4_seal_17])
  | succ n hk17 =>
    intro σ x1  hf H locs ls hW hS hl
    rw [f_X4_seal_17] at hf
    refine lv_iload_n hx hb dX4_seal_17 rfl (lv_at hl 1 rfl) ?_
    refine lv_bipush (v := 16) hx hb dX4_seal_18 (by decide) ?_
    refine lv_icmp_ge (tgt := 57) hx hb dX4_seal_20 (by decide) (fun c2 => ?_) (fun c2 => ?_)
    · rw [if_pos c2] at hf
      refine lv_aload_n hx hb dX4_seal_57 rfl (lv_at hl 0 rfl) ?_
      refine lv_iconst (v := 1) hx hb dX4_seal_58 (by decide) ?_
      refine ks_put (D := D) (ci := 4) (C := RX4) (T := TX4) (N := 8) hx hb hts in_X4_seal_4 tyX4 tyX4_ok nmX4 hown hK hG hW hS (ks_v0 (i := 0) (j := 0) (hE 0 rfl)) 6 (v := 1) (ks_c0 cy ad o 0 0 _) (ks_c0s6 cy ad o 0 0 _ _) rfl (by decide) (hts (.fieldLink RX4 51 "SpinKernel" "sealed" "Z") (by decide +kernel)) rfl (ty := .boolean) (by decide +kernel) rfl rfl (Nat.le_of_ble_eq_true rfl) dX4_seal_59 (fun H locs hW hS => ?_)
      refine lv_iconst (v := (-1)) hx hb dX4_seal_62 (by decide) ?_
      exact ks_yiret (Nat.le_of_ble_eq_true rfl) (Nat.le_of_ble_eq_true rfl) C hf hW hS dX4_seal_63
    · rw [if_neg c2] at hf
      refine lv_aload_n hx hb dX4_seal_23 rfl (lv_at hl 0 rfl) ?_
      refine va_get (D := D) (ci := 4) (v := .ref (ad 1 0 0)) (C := RX4) (T := TX4) (N := 8) hx hb hts in_X4_seal_4 hown hK (ks_P1 hW (ks_v0 (i := 0) (j := 0) (hE 0 rfl)) (ks_c0 cy ad o 0 0 _)) 0 rfl rfl 0 (by decide) (hts (.fieldLink RX4 11 "SpinKernel" "tasks" "[LSpinKernel$Task;") (by decide +kernel)) (fun _ h => h) rfl dX4_seal_24 ?_
      refine lv_iload_n hx hb dX4_seal_27 rfl (lv_at hl 1 rfl) ?_
      obtain ⟨hi3, hf⟩ := ks_guard hf
      refine ks_aald hx hb hK hW (ks_v1 (i := 0) (j := 0) (hE 1 rfl)) 3 (ks_c1 cy ad o 0 0 _) rfl rfl hi3 dX4_seal_28 ?_
      refine va_get (D := D) (ci := 3) (v := .int (σ 8 ((x1.toNatClampNeg)) 0 0)) (C := RX3) (T := TX3) (N := 10) hx hb hts in_X4_seal_3 hown hK (ks_P1 hW (ks_v8 (j := 0) (ks_in_lt hi3) (hE 8 rfl)) (ks_c8 cy ad o (x1.toNatClampNeg) 0 _)) 0 rfl rfl 0 (by decide) (hts (.fieldLink RX4 55 "SpinKernel$Task" "isThere" "Z") (by decide +kernel)) (fun _ h => h) rfl dX4_seal_29 ?_
      refine lv_if_eq (tgt := 51) hx hb dX4_seal_32 (by decide) (fun c4 => ?_) (fun c4 => ?_)
      · rw [if_pos c4] at hf
        refine lv_iinc (v := (x1 + 1)) (lv' := [(1, .int (x1 + 1)), (0, .ref (ad 0 0 0))]) hx hb dX4_seal_51 hl (k := 1) rfl rfl (by decide) rfl (fun ls hl => ?_)
        refine lv_goto (tgt := 17) hx hb dX4_seal_54 (by decide) ?_
        exact hk17 _ _ hf hW hS (lv_sub hl [1, 0] rfl)
      · rw [if_neg c4] at hf
        refine lv_aload_n hx hb dX4_seal_35 rfl (lv_at hl 0 rfl) ?_
        refine lv_aload_n hx hb dX4_seal_36 rfl (lv_at hl 0 rfl) ?_
        refine va_get (D := D) (ci := 4) (v := .ref (ad 1 0 0)) (C := RX4) (T := TX4) (N := 8) hx hb hts in_X4_seal_4 hown hK (ks_P1 hW (ks_v0 (i := 0) (j := 0) (hE 0 rfl)) (ks_c0 cy ad o 0 0 _)) 0 rfl rfl 0 (by decide) (hts (.fieldLink RX4 11 "SpinKernel" "tasks" "[LSpinKernel$Task;") (by decide +kernel)) (fun _ h => h) rfl dX4_seal_37 ?_
        refine lv_iload_n hx hb dX4_seal_40 rfl (lv_at hl 1 rfl) ?_
        obtain ⟨hi5, hf⟩ := ks_guard hf
        refine ks_aald hx hb hK hW (ks_v1 (i := 0) (j := 0) (hE 1 rfl)) 3 (ks_c1 cy ad o 0 0 _) rfl rfl hi5 dX4_seal_41 ?_
        obtain ⟨⟨r8, s7⟩, hc6, hf⟩ := ks_bind hf
        try dsimp only at hf
        refine ks_calli (va_runV (As := [.ref (ad 8 (x1.toNatClampNeg) 0)]) (rest := []) ⟨hx, hb, hml, hown, hts⟩ (m_X4_responseOf l D cy ad En n0 hG hE o (ks_v8 (j := 0) (ks_in_lt hi5) (hE 8 rfl)) hc6) (cwV 1 hts gX4_seal_X4_responseOf rfl rfl rfl (by decide +kernel) ⟨(Nat.le_of_ble_eq_true rfl), (Nat.le_of_ble_eq_true rfl)⟩) ⟨ks_U.blind, ks_recv hK hW (ks_v0 (i := 0) (j := 0) (hE 0 rfl)) (ks_c0 cy ad o 0 0 _) rfl, fun U hU hWm => ⟨rfl, hU0.now hS hW hWm.alike hU⟩⟩ rfl rfl hl.1 rfl (lv_room (Nat.le_of_ble_eq_true rfl)) dX4_seal_42 ⟨(Nat.le_of_ble_eq_true rfl), (Nat.le_of_ble_eq_true rfl)⟩) hS (fun H locs hW hS => ?_)
        refine lv_iconst (v := (-1)) hx hb dX4_seal_45 (by decide) ?_
        refine lv_icmp_ne (tgt := 51) hx hb dX4_seal_46 (by decide) (fun c9 => ?_) (fun c9 => ?_)
        · rw [if_neg c9] at hf
          refine lv_iinc (v := (x1 + 1)) (lv' := [(1, .int (x1 + 1)), (0, .ref (ad 0 0 0))]) hx hb dX4_seal_51 hl (k := 1) rfl rfl (by decide) rfl (fun ls hl => ?_)
          refine lv_goto (tgt := 17) hx hb dX4_seal_54 (by decide) ?_
          exact hk17 _ _ hf hW hS (lv_sub hl [1, 0] rfl)
        · rw [if_pos c9] at hf
          refine lv_iload_n hx hb dX4_seal_49 rfl (lv_at hl 1 rfl) ?_
          exact ks_yiret (Nat.le_of_ble_eq_true rfl) (Nat.le_of_ble_eq_true rfl) C hf hW hS dX4_seal_50
set_option maxHeartbeats 4000000 in
set_option maxRecDepth 100000 in
theorem t_X4_seal {p : Program} {l : Launch} {e : Env} {s : State} {m : MethodId} {args : Array Value} {below : List Frame} {meth : Method} {c : Code} {D : va_G} {cy : Nat → ClassId} {ad : ks_A} {En : Nat → Prop} {n0 : Nat → Prop} {σ0 : ks_S} {o : Int64} {N : Nat} {out : ((Nat ⊕ Int32) × ks_S)} (C : ks_M p s m args meth c D cy ad En (fun k => ks_g k = 0) n0 σ0 o wsX4_seal cX4_seal RX4 2 (some .int)) (hlt : l.stackTraces = false) (hN : ks_N n0 s) (hexc : ∀ x ∈ c.exceptionTable.toList, False) {σ : ks_S}   (hf : f_X4_seal N σ  = some out) {H : Heap} {locs : List Loc} {ls : Array Slot} (hW : ks_W D cy ad En σ o H) (hS : va_S (ks_F n0) s.heap H locs) (hl : lv_has ls 2 [(0, .ref (ad 0 0 0))]) : W p l e (ks_Rm 6 1 6 93) s m args below meth c H locs 0 0 (vx_MQ below (ks_Yi D cy ad En n0 o out) (ks_X D cy ad En n0 o out) args s 1 6 (ks_F n0)) (F0 m 0 ls []) := by
  obtain ⟨hx, hb, hml, hr, hown, hts, hlocks, hG, hU0, hE⟩ := id C
  have hK := hU0.2.2
  unfold f_X4_seal at hf
  refine lv_aload_n hx hb dX4_seal_0 rfl (lv_at hl 0 rfl) ?_
  refine va_get (D := D) (ci := 4) (v := .int (σ 0 0 0 6)) (C := RX4) (T := TX4) (N := 8) hx hb hts in_X4_seal_4 hown hK (ks_P1 hW (ks_v0 (i := 0) (j := 0) (hE 0 rfl)) (ks_c0 cy ad o 0 0 _)) 0 rfl rfl 6 (by decide) (hts (.fieldLink RX4 51 "SpinKernel" "sealed" "Z") (by decide +kernel)) (fun _ h => h) rfl dX4_seal_1 ?_
  refine lv_if_eq (tgt := 15) hx hb dX4_seal_4 (by decide) (fun c1 => ?_) (fun c1 => ?_)
  · rw [if_pos c1] at hf
    refine lv_iconst (v := 0) hx hb dX4_seal_15 (by decide) ?_
    refine lv_istore_n (lv' := [(1, .int 0), (0, .ref (ad 0 0 0))]) hx hb dX4_seal_16 rfl hl (by decide) rfl (fun ls hl => ?_)
    exact t_X4_seal_17 C hlt hN hexc _ _ _  hf hW hS (lv_sub hl [1, 0] rfl)
  · rw [if_neg c1] at hf
    exact ks_throw (ik := 58) (ic := 60) 1 hlt hN hexc C rfl (by decide +kernel) (by decide +kernel) (by decide +kernel) (by decide +kernel) ks_at1 ks_ag1 hf hW hS hl.1 dX4_seal_7 dX4_seal_10 dX4_seal_11 dX4_seal_14 ⟨(Nat.le_of_ble_eq_true rfl), (Nat.le_of_ble_eq_true rfl), (Nat.le_of_ble_eq_true rfl), (Nat.le_of_ble_eq_true rfl)⟩ (Nat.le_of_ble_eq_true rfl) (Nat.le_of_ble_eq_true rfl)
set_option maxHeartbeats 4000000 in
set_option maxRecDepth 100000 in
theorem m_X4_seal (l : Launch) (hlt : l.stackTraces = false) (D : va_G) (cy : Nat → ClassId) (ad : ks_A) (En : Nat → Prop) (n0 : Nat → Prop) (hG : ks_G ad En n0) (hE : ∀ k, ks_g k = 0 → En k) (o : Int64) {N : Nat} {σ : ks_S}   {out : ((Nat ⊕ Int32) × ks_S)} (hf : f_X4_seal N σ  = some out) : vx_Met l yX4_seal wsX4_seal (ks_Rm 6 1 6 93) (va_Pc [.ref (ad 0 0 0)] (ks_UN D cy ad En n0 σ o)) (ks_Yi D cy ad En n0 o out) (ks_X D cy ad En n0 o out) 1 6 (ks_F n0) := by
  refine vx_ofW (cc := cX4_seal) (maxL := 2) (ret := some .int) (by decide) rfl ?_
  intro p e s m args below meth c s₁ B hml hexc hv
  obtain ⟨rfl, hU, hN⟩ := hv
  have hl := lv_entry ([.ref (ad 0 0 0)]) (n := 2) (Nat.le_of_ble_eq_true rfl)
  rw [lg_entry_eq]
  generalize (lg_sl ([.ref (ad 0 0 0)]) ++ List.replicate (2 - (lg_sl ([.ref (ad 0 0 0)])).length) Slot.unset).toArray = ls at hl ⊢
  exact t_X4_seal ⟨B.exec, B.bytes, hml, B.returns, findClass_of_methodNamed B.named, atoms_spec (ws := wsX4_seal) B.pre, B.notSynchronized, hG, hU, hE⟩ hlt hN hexc  hf hU.2.1 va_S.rf hl
