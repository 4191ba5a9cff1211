/-! SpinKernelModel.core(II)I -/
def f_X5_core_29 (σ : ks_S) (x1 : Int32) (x2 : Int32) (xs0 : Int32) (xs1 : Int32) : Option (Int32 × ks_S) :=
  ((f_X5_refused σ xs1 xs0 0).bind fun (r11, s10) => (if r11 = 0 then (if x2 = 0 then (if ks_in x1 4 = true then some ((s10 41 0 0 x1.toNatClampNeg), s10) else none) else (if ks_in x1 4 = true then some ((s10 42 0 0 x1.toNatClampNeg), s10) else none)) else some (0, s10)))
def f_X5_core_15 (σ : ks_S) (x1 : Int32) (x2 : Int32) (xs0 : Int32) : Option (Int32 × ks_S) :=
  ((f_X5_within σ x2 0 1).bind fun (r7, s6) => (if r7 = 0 then f_X5_core_29 s6 x1 x2 1 xs0 else f_X5_core_29 s6 x1 x2 0 xs0))
def f_X5_core (σ : ks_S) (x1 : Int32) (x2 : Int32) : Option (Int32 × ks_S) :=
  ((f_X5_within σ x1 0 3).bind fun (r3, s2) => (if r3 = 0 then f_X5_core_15 s2 x1 x2 1 else f_X5_core_15 s2 x1 x2 0))
theorem in_X5_core_5 : ∀ w ∈ wsX50, w ∈ wsX5_core := by decide +kernel
set_option maxHeartbeats 4000000 in
set_option maxRecDepth 100000 in
theorem t_X5_core_29 {p : Program} {l : Launch} {e : Env} {s : State} {m : MethodId} {args : Array Value} {below : List Frame} {meth : Method} {c : Code} {D : va_G} {cy : Nat → ClassId} {ad : ks_A} {En : Nat → Prop} {n0 : Nat → Prop} {σ0 : ks_S} {o : Int64} {out : (Int32 × ks_S)} (C : ks_M p s m args meth c D cy ad En (fun k => ks_g k = 1) n0 σ0 o wsX5_core cX5_core RX5 3 (some .int)) {σ : ks_S} {x1 : Int32} {x2 : Int32} {xs0 : Int32} {xs1 : Int32}  (hf : f_X5_core_29 σ x1 x2 xs0 xs1 = some out) {H : Heap} {locs : List Loc} {ls : Array Slot} (hW : ks_W D cy ad En σ o H) (hS : va_S (ks_F n0) s.heap H locs) (hl : lv_has ls 3 [(0, .ref (ad 14 0 0)), (1, .int x1), (2, .int x2)]) : W p l e (ks_Rm 1 0 0 23) s m args below meth c H locs 0 0 (MQ below (ks_Qi D cy ad En n0 o out) args s 0 0 (ks_F n0)) (F0 m 29 ls [.int xs0, .int xs1, .ref (ad 14 0 0)]) := by
  obtain ⟨hx, hb, hml, hr, hown, hts, hlocks, hG, hU0, hE⟩ := id C
  have hK := hU0.2.2
  unfold f_X5_core_29 at hf
  refine lv_iconst (v := 0) hx hb dX5_core_29 (by decide) ?_
  obtain ⟨⟨r11, s10⟩, hc9, hf⟩ := ks_bind hf
  try dsimp only at hf
  refine ks_calli (va_runV (As := [.int xs1, .int xs0, .int 0]) (rest := []) ⟨hx, hb, hml, hown, hts⟩ (m_X5_refused l D cy ad En n0 hG hE o hc9) (cwV 3 hts gX5_core_X5_refused rfl rfl rfl (by decide +kernel) ⟨(Nat.le_of_ble_eq_true rfl), (Nat.le_of_ble_eq_true rfl)⟩) ⟨ks_U.blind, ks_recv hK hW (ks_v14 (i := 0) (j := 0) (hE 14 rfl)) (ks_c14 cy ad o 0 0 _) rfl, fun U hU hWm => ⟨rfl, hU0.now hS hW hWm.alike hU⟩⟩ rfl rfl hl.1 rfl (lv_room (Nat.le_of_ble_eq_true rfl)) dX5_core_30 ⟨(Nat.le_of_ble_eq_true rfl), (Nat.le_of_ble_eq_true rfl)⟩) hS (fun H locs hW hS => ?_)
  refine lv_if_eq (tgt := 40) hx hb dX5_core_33 (by decide) (fun c12 => ?_) (fun c12 => ?_)
  · rw [if_pos c12] at hf
    refine lv_iload_n hx hb dX5_core_40 rfl (lv_at hl 2 rfl) ?_
    refine lv_if_ne (tgt := 53) hx hb dX5_core_41 (by decide) (fun c13 => ?_) (fun c13 => ?_)
    · rw [if_neg c13] at hf
      refine lv_aload_n hx hb dX5_core_53 rfl (lv_at hl 0 rfl) ?_
      refine va_get (D := D) (ci := 5) (v := .ref (ad 42 0 0)) (C := RX5) (T := TX5) (N := 34) hx hb hts in_X5_core_5 hown hK (ks_P1 hW (ks_v14 (i := 0) (j := 0) (hE 14 rfl)) (ks_c14 cy ad o 0 0 _)) 0 rfl rfl 31 (by decide) (hts (.fieldLink RX5 92 "SpinKernelModel" "lastState" "[I") (by decide +kernel)) (fun _ h => h) rfl dX5_core_54 ?_
      refine lv_iload_n hx hb dX5_core_57 rfl (lv_at hl 1 rfl) ?_
      obtain ⟨hi14, hf⟩ := ks_guard hf
      refine ks_iald hx hb hK hW (ks_v42 (i := 0) (j := 0) (hE 42 rfl)) (ks_c42 cy ad o 0 0 _) hi14 dX5_core_58 ?_
      exact ks_iret C hf hW hS dX5_core_59
    · rw [if_pos c13] at hf
      refine lv_aload_n hx hb dX5_core_44 rfl (lv_at hl 0 rfl) ?_
      refine va_get (D := D) (ci := 5) (v := .ref (ad 41 0 0)) (C := RX5) (T := TX5) (N := 34) hx hb hts in_X5_core_5 hown hK (ks_P1 hW (ks_v14 (i := 0) (j := 0) (hE 14 rfl)) (ks_c14 cy ad o 0 0 _)) 0 rfl rfl 30 (by decide) (hts (.fieldLink RX5 89 "SpinKernelModel" "lastTask" "[I") (by decide +kernel)) (fun _ h => h) rfl dX5_core_45 ?_
      refine lv_iload_n hx hb dX5_core_48 rfl (lv_at hl 1 rfl) ?_
      obtain ⟨hi15, hf⟩ := ks_guard hf
      refine ks_iald hx hb hK hW (ks_v41 (i := 0) (j := 0) (hE 41 rfl)) (ks_c41 cy ad o 0 0 _) hi15 dX5_core_49 ?_
      refine lv_goto (tgt := 59) hx hb dX5_core_50 (by decide) ?_
      exact ks_iret C hf hW hS dX5_core_59
  · rw [if_neg c12] at hf
    refine lv_iconst (v := 0) hx hb dX5_core_36 (by decide) ?_
    refine lv_goto (tgt := 59) hx hb dX5_core_37 (by decide) ?_
    exact ks_iret C hf hW hS dX5_core_59
set_option maxHeartbeats 4000000 in
set_option maxRecDepth 100000 in
theorem t_X5_core_15 {p : Program} {l : Launch} {e : Env} {s : State} {m : MethodId} {args : Array Value} {below : List Frame} {meth : Method} {c : Code} {D : va_G} {cy : Nat → ClassId} {ad : ks_A} {En : Nat → Prop} {n0 : Nat → Prop} {σ0 : ks_S} {o : Int64} {out : (Int32 × ks_S)} (C : ks_M p s m args meth c D cy ad En (fun k => ks_g k = 1) n0 σ0 o wsX5_core cX5_core RX5 3 (some .int)) {σ : ks_S} {x1 : Int32} {x2 : Int32} {xs0 : Int32}  (hf : f_X5_core_15 σ x1 x2 xs0 = some out) {H : Heap} {locs : List Loc} {ls : Array Slot} (hW : ks_W D cy ad En σ o H) (hS : va_S (ks_F n0) s.heap H locs) (hl : lv_has ls 3 [(0, .ref (ad 14 0 0)), (1, .int x1), (2, .int x2)]) : W p l e (ks_Rm 1 0 0 23) s m args below meth c H locs 0 0 (MQ below (ks_Qi D cy ad En n0 o out) args s 0 0 (ks_F n0)) (F0 m 15 ls [.int xs0, .ref (ad 14 0 0)]) := by
  obtain ⟨hx, hb, hml, hr, hown, hts, hlocks, hG, hU0, hE⟩ := id C
  have hK := hU0.2.2
  unfold f_X5_core_15 at hf
  refine lv_iload_n hx hb dX5_core_15 rfl (lv_at hl 2 rfl) ?_
  refine lv_iconst (v := 0) hx hb dX5_core_16 (by decide) ?_
  refine lv_iconst (v := 1) hx hb dX5_core_17 (by decide) ?_
  obtain ⟨⟨r7, s6⟩, hc5, hf⟩ := ks_bind hf
  try dsimp only at hf
  refine ks_calli (va_runS (As := [.int x2, .int 0, .int 1]) (rest := [.int xs0, .ref (ad 14 0 0)]) ⟨hx, hb, hml, hown, hts⟩ (m_X5_within l D cy ad En n0 hG hE o hc5) (va_cwS 3 hts gX5_core_X5_within rfl rfl rfl (by decide +kernel) ⟨(Nat.le_of_ble_eq_true rfl), (Nat.le_of_ble_eq_true rfl)⟩) ⟨ks_U.blind, fun U hU hWm => ⟨rfl, hU0.now hS hW hWm.alike hU⟩⟩ rfl rfl hl.1 rfl (lv_room (Nat.le_of_ble_eq_true rfl)) dX5_core_18 ⟨(Nat.le_of_ble_eq_true rfl), (Nat.le_of_ble_eq_true rfl)⟩) hS (fun H locs hW hS => ?_)
  refine lv_if_ne (tgt := 28) hx hb dX5_core_21 (by decide) (fun c8 => ?_) (fun c8 => ?_)
  · rw [if_neg c8] at hf
    refine lv_iconst (v := 0) hx hb dX5_core_28 (by decide) ?_
    exact t_X5_core_29 C  hf hW hS (lv_sub hl [0, 1, 2] rfl)
  · rw [if_pos c8] at hf
    refine lv_iconst (v := 1) hx hb dX5_core_24 (by decide) ?_
    refine lv_goto (tgt := 29) hx hb dX5_core_25 (by decide) ?_
    exact t_X5_core_29 C  hf hW hS (lv_sub hl [0, 1, 2] rfl)
set_option maxHeartbeats 4000000 in
set_option maxRecDepth 100000 in
theorem t_X5_core {p : Program} {l : Launch} {e : Env} {s : State} {m : MethodId} {args : Array Value} {below : List Frame} {meth : Method} {c : Code} {D : va_G} {cy : Nat → ClassId} {ad : ks_A} {En : Nat → Prop} {n0 : Nat → Prop} {σ0 : ks_S} {o : Int64} {out : (Int32 × ks_S)} (C : ks_M p s m args meth c D cy ad En (fun k => ks_g k = 1) n0 σ0 o wsX5_core cX5_core RX5 3 (some .int)) {σ : ks_S} {x1 : Int32} {x2 : Int32}  (hf : f_X5_core σ x1 x2 = some out) {H : Heap} {locs : List Loc} {ls : Array Slot} (hW : ks_W D cy ad En σ o H) (hS : va_S (ks_F n0) s.heap H locs) (hl : lv_has ls 3 [(0, .ref (ad 14 0 0)), (1, .int x1), (2, .int x2)]) : W p l e (ks_Rm 1 0 0 23) s m args below meth c H locs 0 0 (MQ below (ks_Qi D cy ad En n0 o out) args s 0 0 (ks_F n0)) (F0 m 0 ls []) := by
  obtain ⟨hx, hb, hml, hr, hown, hts, hlocks, hG, hU0, hE⟩ := id C
  have hK := hU0.2.2
  unfold f_X5_core at hf
  refine lv_aload_n hx hb dX5_core_0 rfl (lv_at hl 0 rfl) ?_
  refine lv_iload_n hx hb dX5_core_1 rfl (lv_at hl 1 rfl) ?_
  refine lv_iconst (v := 0) hx hb dX5_core_2 (by decide) ?_
  refine lv_iconst (v := 3) hx hb dX5_core_3 (by decide) ?_
  obtain ⟨⟨r3, s2⟩, hc1, hf⟩ := ks_bind hf
  try dsimp only at hf
  refine ks_calli (va_runS (As := [.int x1, .int 0, .int 3]) (rest := [.ref (ad 14 0 0)]) ⟨hx, hb, hml, hown, hts⟩ (m_X5_within l D cy ad En n0 hG hE o hc1) (va_cwS 3 hts gX5_core_X5_within rfl rfl rfl (by decide +kernel) ⟨(Nat.le_of_ble_eq_true rfl), (Nat.le_of_ble_eq_true rfl)⟩) ⟨ks_U.blind, fun U hU hWm => ⟨rfl, hU0.now hS hW hWm.alike hU⟩⟩ rfl rfl hl.1 rfl (lv_room (Nat.le_of_ble_eq_true rfl)) dX5_core_4 ⟨(Nat.le_of_ble_eq_true rfl), (Nat.le_of_ble_eq_true rfl)⟩) hS (fun H locs hW hS => ?_)
  refine lv_if_ne (tgt := 14) hx hb dX5_core_7 (by decide) (fun c4 => ?_) (fun c4 => ?_)
  · rw [if_neg c4] at hf
    refine lv_iconst (v := 0) hx hb dX5_core_14 (by decide) ?_
    exact t_X5_core_15 C  hf hW hS (lv_sub hl [0, 1, 2] rfl)
  · rw [if_pos c4] at hf
    refine lv_iconst (v := 1) hx hb dX5_core_10 (by decide) ?_
    refine lv_goto (tgt := 15) hx hb dX5_core_11 (by decide) ?_
    exact t_X5_core_15 C  hf hW hS (lv_sub hl [0, 1, 2] rfl)
set_option maxHeartbeats 4000000 in
set_option maxRecDepth 100000 in
theorem m_X5_core (l : Launch) (D : va_G) (cy : Nat → ClassId) (ad : ks_A) (En : Nat → Prop) (n0 : Nat → Prop) (hG : ks_G ad En n0) (hE : ∀ k, ks_g k = 1 → En k) (o : Int64) {σ : ks_S} {x1 : Int32} {x2 : Int32}  {out : (Int32 × ks_S)} (hf : f_X5_core σ x1 x2 = some out) : Met l yX5_core wsX5_core (ks_Rm 1 0 0 23) (va_Pc [.ref (ad 14 0 0), .int x1, .int x2] (ks_U D cy ad En n0 σ o)) (ks_Qi D cy ad En n0 o out) 0 0 (ks_F n0) := by
  refine Met.ofW (cc := cX5_core) (maxL := 3) (ret := some .int) (by decide) rfl ?_
  intro p e s m args below meth c s₁ B hml hv
  obtain ⟨rfl, hU⟩ := hv
  have hl := lv_entry ([.ref (ad 14 0 0), .int x1, .int x2]) (n := 3) (Nat.le_of_ble_eq_true rfl)
  rw [lg_entry_eq]
  generalize (lg_sl ([.ref (ad 14 0 0), .int x1, .int x2]) ++ List.replicate (3 - (lg_sl ([.ref (ad 14 0 0), .int x1, .int x2])).length) Slot.unset).toArray = ls at hl ⊢
  exact t_X5_core ⟨B.exec, B.bytes, hml, B.returns, findClass_of_methodNamed B.named, atoms_spec (ws := wsX5_core) B.pre, B.notSynchronized, hG, hU, hE⟩  hf hU.2.1 va_S.rf hl

/-! SpinKernelModel.row(II)I -/
def f_X5_row_16 (N : Nat) (σ : ks_S) (x1 : Int32) (x2 : Int32) (xs0 : Int32) : Option (Int32 × ks_S) :=
  ((f_X5_refused σ xs0 0 0).bind fun (r7, s6) => (if r7 = 0 then ((f_X5_findGroups N s6).bind fun s10 => (if ks_in x1 8 = true then (if ks_in ((s10 25 0 0 x1.toNatClampNeg)) 8 = true then ((f_X5_within s10 x2 0 ((((s10 44 0 0 ((s10 25 0 0 x1.toNatClampNeg)).toNatClampNeg)) - 1))).bind fun (r16, s15) => (if r16 = 0 then some ((-1), s15) else (if ks_in ((((4 * ((s10 25 0 0 x1.toNatClampNeg)))) + x2)) 32 = true then some ((s15 43 0 0 ((((4 * ((s10 25 0 0 x1.toNatClampNeg)))) + x2)).toNatClampNeg), s15) else none))) else none) else none)) else some (0, s6)))
def f_X5_row (N : Nat) (σ : ks_S) (x1 : Int32) (x2 : Int32) : Option (Int32 × ks_S) :=
  ((f_X5_within σ x1 0 7).bind fun (r3, s2) => (if r3 = 0 then f_X5_row_16 N s2 x1 x2 1 else f_X5_row_16 N s2 x1 x2 0))
theorem in_X5_row_5 : ∀ w ∈ wsX50, w ∈ wsX5_row := by decide +kernel
set_option maxHeartbeats 4000000 in
set_option maxRecDepth 100000 in
theorem t_X5_row_16 {p : Program} {l : Launch} {e : Env} {s : State} {m : MethodId} {args : Array Value} {below : List Frame} {meth : Method} {c : Code} {D : va_G} {cy : Nat → ClassId} {ad : ks_A} {En : Nat → Prop} {n0 : Nat → Prop} {σ0 : ks_S} {o : Int64} {N : Nat} {out : (Int32 × ks_S)} (C : ks_M p s m args meth c D cy ad En (fun k => ks_g k = 1) n0 σ0 o wsX5_row cX5_row RX5 4 (some .int)) {σ : ks_S} {x1 : Int32} {x2 : Int32} {xs0 : Int32}  (hf : f_X5_row_16 N σ x1 x2 xs0 = some out) {H : Heap} {locs : List Loc} {ls : Array Slot} (hW : ks_W D cy ad En σ o H) (hS : va_S (ks_F n0) s.heap H locs) (hl : lv_has ls 4 [(0, .ref (ad 14 0 0)), (1, .int x1), (2, .int x2)]) : W p l e (ks_Rm 1 0 0 27) s m args below meth c H locs 0 0 (MQ below (ks_Qi D cy ad En n0 o out) args s 0 0 (ks_F n0)) (F0 m 16 ls [.int xs0, .ref (ad 14 0 0)]) := by
  obtain ⟨hx, hb, hml, hr, hown, hts, hlocks, hG, hU0, hE⟩ := id C
  have hK := hU0.2.2
  unfold f_X5_row_16 at hf
  refine lv_iconst (v := 0) hx hb dX5_row_16 (by decide) ?_
  refine lv_iconst (v := 0) hx hb dX5_row_17 (by decide) ?_
  obtain ⟨⟨r7, s6⟩, hc5, hf⟩ := ks_bind hf
  try dsimp only at hf
  refine ks_calli (va_runV (As := [.int xs0, .int 0, .int 0]) (rest := []) ⟨hx, hb, hml, hown, hts⟩ (m_X5_refused l D cy ad En n0 hG hE o hc5) (cwV 3 hts gX5_row_X5_refused rfl rfl rfl (by decide +kernel) ⟨(Nat.le_of_ble_eq_true rfl), (Nat.le_of_ble_eq_true rfl)⟩) ⟨ks_U.blind, ks_recv hK hW (ks_v14 (i := 0) (j := 0) (hE 14 rfl)) (ks_c14 cy ad o 0 0 _) rfl, fun U hU hWm => ⟨rfl, hU0.now hS hW hWm.alike hU⟩⟩ rfl rfl hl.1 rfl (lv_room (Nat.le_of_ble_eq_true rfl)) dX5_row_18 ⟨(Nat.le_of_ble_eq_true rfl), (Nat.le_of_ble_eq_true rfl)⟩) hS (fun H locs hW hS => ?_)
  refine lv_if_eq (tgt := 26) hx hb dX5_row_21 (by decide) (fun c8 => ?_) (fun c8 => ?_)
  · rw [if_pos c8] at hf
    refine lv_aload_n hx hb dX5_row_26 rfl (lv_at hl 0 rfl) ?_
    obtain ⟨s10, hc9, hf⟩ := ks_bind hf
    try dsimp only at hf
    refine ks_callv (va_runV (As := []) (rest := []) ⟨hx, hb, hml, hown, hts⟩ (m_X5_findGroups l D cy ad En n0 hG hE o hc9) (cwV 0 hts gX5_row_X5_findGroups rfl rfl rfl (by decide +kernel) ⟨(Nat.le_of_ble_eq_true rfl), (Nat.le_of_ble_eq_true rfl)⟩) ⟨ks_U.blind, ks_recv hK hW (ks_v14 (i := 0) (j := 0) (hE 14 rfl)) (ks_c14 cy ad o 0 0 _) rfl, fun U hU hWm => ⟨rfl, hU0.now hS hW hWm.alike hU⟩⟩ rfl rfl hl.1 rfl (lv_room (Nat.le_of_ble_eq_true rfl)) dX5_row_27 ⟨(Nat.le_of_ble_eq_true rfl), (Nat.le_of_ble_eq_true rfl)⟩) hS (fun H locs hW hS => ?_)
    refine lv_aload_n hx hb dX5_row_30 rfl (lv_at hl 0 rfl) ?_
    refine va_get (D := D) (ci := 5) (v := .ref (ad 25 0 0)) (C := RX5) (T := TX5) (N := 34) hx hb hts in_X5_row_5 hown hK (ks_P1 hW (ks_v14 (i := 0) (j := 0) (hE 14 rfl)) (ks_c14 cy ad o 0 0 _)) 0 rfl rfl 11 (by decide) (hts (.fieldLink RX5 40 "SpinKernelModel" "groups" "[I") (by decide +kernel)) (fun _ h => h) rfl dX5_row_31 ?_
    refine lv_iload_n hx hb dX5_row_34 rfl (lv_at hl 1 rfl) ?_
    obtain ⟨hi12, hf⟩ := ks_guard hf
    refine ks_iald hx hb hK hW (ks_v25 (i := 0) (j := 0) (hE 25 rfl)) (ks_c25 cy ad o 0 0 _) hi12 dX5_row_35 ?_
    refine lv_istore_n (lv' := [(3, .int (s10 25 0 0 x1.toNatClampNeg)), (0, .ref (ad 14 0 0)), (1, .int x1), (2, .int x2)]) hx hb dX5_row_36 rfl hl (by decide) rfl (fun ls hl => ?_)
    refine lv_iload_n hx hb dX5_row_37 rfl (lv_at hl 3 rfl) ?_
    refine lv_iconst (v := 0) hx hb dX5_row_38 (by decide) ?_
    refine lv_aload_n hx hb dX5_row_39 rfl (lv_at hl 1 rfl) ?_
    refine va_get (D := D) (ci := 5) (v := .ref (ad 44 0 0)) (C := RX5) (T := TX5) (N := 34) hx hb hts in_X5_row_5 hown hK (ks_P1 hW (ks_v14 (i := 0) (j := 0) (hE 14 rfl)) (ks_c14 cy ad o 0 0 _)) 0 rfl rfl 33 (by decide) (hts (.fieldLink RX5 98 "SpinKernelModel" "many" "[I") (by decide +kernel)) (fun _ h => h) rfl dX5_row_40 ?_
    refine lv_iload_n hx hb dX5_row_43 rfl (lv_at hl 0 rfl) ?_
    obtain ⟨hi13, hf⟩ := ks_guard hf
    refine ks_iald hx hb hK hW (ks_v44 (i := 0) (j := 0) (hE 44 rfl)) (ks_c44 cy ad o 0 0 _) hi13 dX5_row_44 ?_
    refine lv_iconst (v := 1) hx hb dX5_row_45 (by decide) ?_
    refine lv_isub hx hb dX5_row_46 ?_
    obtain ⟨⟨r16, s15⟩, hc14, hf⟩ := ks_bind hf
    try dsimp only at hf
    refine ks_calli (va_runS (As := [.int x2, .int 0, .int (((s10 44 0 0 ((s10 25 0 0 x1.toNatClampNeg)).toNatClampNeg)) - 1)]) (rest := []) ⟨hx, hb, hml, hown, hts⟩ (m_X5_within l D cy ad En n0 hG hE o hc14) (va_cwS 3 hts gX5_row_X5_within rfl rfl rfl (by decide +kernel) ⟨(Nat.le_of_ble_eq_true rfl), (Nat.le_of_ble_eq_true rfl)⟩) ⟨ks_U.blind, fun U hU hWm => ⟨rfl, hU0.now hS hW hWm.alike hU⟩⟩ rfl rfl hl.1 rfl (lv_room (Nat.le_of_ble_eq_true rfl)) dX5_row_47 ⟨(Nat.le_of_ble_eq_true rfl), (Nat.le_of_ble_eq_true rfl)⟩) hS (fun H locs hW hS => ?_)
    refine lv_if_eq (tgt := 66) hx hb dX5_row_50 (by decide) (fun c17 => ?_) (fun c17 => ?_)
    · rw [if_pos c17] at hf
      refine lv_iconst (v := (-1)) hx hb dX5_row_66 (by decide) ?_
      exact ks_iret C hf hW hS dX5_row_67
    · rw [if_neg c17] at hf
      refine lv_aload_n hx hb dX5_row_53 rfl (lv_at hl 1 rfl) ?_
      refine va_get (D := D) (ci := 5) (v := .ref (ad 43 0 0)) (C := RX5) (T := TX5) (N := 34) hx hb hts in_X5_row_5 hown hK (ks_P1 hW (ks_v14 (i := 0) (j := 0) (hE 14 rfl)) (ks_c14 cy ad o 0 0 _)) 0 rfl rfl 32 (by decide) (hts (.fieldLink RX5 95 "SpinKernelModel" "rows" "[I") (by decide +kernel)) (fun _ h => h) rfl dX5_row_54 ?_
      refine lv_iconst (v := 4) hx hb dX5_row_57 (by decide) ?_
      refine lv_iload_n hx hb dX5_row_58 rfl (lv_at hl 0 rfl) ?_
      refine lv_imul hx hb dX5_row_59 ?_
      refine lv_iload_n hx hb dX5_row_60 rfl (lv_at hl 3 rfl) ?_
      refine lv_iadd hx hb dX5_row_61 ?_
      obtain ⟨hi18, hf⟩ := ks_guard hf
      refine ks_iald hx hb hK hW (ks_v43 (i := 0) (j := 0) (hE 43 rfl)) (ks_c43 cy ad o 0 0 _) hi18 dX5_row_62 ?_
      refine lv_goto (tgt := 67) hx hb dX5_row_63 (by decide) ?_
      exact ks_iret C hf hW hS dX5_row_67
  · rw [if_neg c8] at hf
    refine lv_iconst (v := 0) hx hb dX5_row_24 (by decide) ?_
    exact ks_iret C hf hW hS dX5_row_25
set_option maxHeartbeats 4000000 in
set_option maxRecDepth 100000 in
theorem t_X5_row {p : Program} {l : Launch} {e : Env} {s : State} {m : MethodId} {args : Array Value} {below : List Frame} {meth : Method} {c : Code} {D : va_G} {cy : Nat → ClassId} {ad : ks_A} {En : Nat → Prop} {n0 : Nat → Prop} {σ0 : ks_S} {o : Int64} {N : Nat} {out : (Int32 × ks_S)} (C : ks_M p s m args meth c D cy ad En (fun k => ks_g k = 1) n0 σ0 o wsX5_row cX5_row RX5 4 (some .int)) {σ : ks_S} {x1 : Int32} {x2 : Int32}  (hf : f_X5_row N σ x1 x2 = some out) {H : Heap} {locs : List Loc} {ls : Array Slot} (hW : ks_W D cy ad En σ o H) (hS : va_S (ks_F n0) s.heap H locs) (hl : lv_has ls 4 [(0, .ref (ad 14 0 0)), (1, .int x1), (2, .int x2)]) : W p l e (ks_Rm 1 0 0 27) s m args below meth c H locs 0 0 (MQ below (ks_Qi D cy ad En n0 o out) args s 0 0 (ks_F n0)) (F0 m 0 ls []) := by
  obtain ⟨hx, hb, hml, hr, hown, hts, hlocks, hG, hU0, hE⟩ := id C
  have hK := hU0.2.2
  unfold f_X5_row at hf
  refine lv_aload_n hx hb dX5_row_0 rfl (lv_at hl 0 rfl) ?_
  refine lv_iload_n hx hb dX5_row_1 rfl (lv_at hl 1 rfl) ?_
  refine lv_iconst (v := 0) hx hb dX5_row_2 (by decide) ?_
  refine lv_bipush (v := 7) hx hb dX5_row_3 (by decide) ?_
  obtain ⟨⟨r3, s2⟩, hc1, hf⟩ := ks_bind hf
  try dsimp only at hf
  refine ks_calli (va_runS (As := [.int x1, .int 0, .int 7]) (rest := [.ref (ad 14 0 0)]) ⟨hx, hb, hml, hown, hts⟩ (m_X5_within l D cy ad En n0 hG hE o hc1) (va_cwS 3 hts gX5_row_X5_within rfl rfl rfl (by decide +kernel) ⟨(Nat.le_of_ble_eq_true rfl), (Nat.le_of_ble_eq_true rfl)⟩) ⟨ks_U.blind, fun U hU hWm => ⟨rfl, hU0.now hS hW hWm.alike hU⟩⟩ rfl rfl hl.1 rfl (lv_room (Nat.le_of_ble_eq_true rfl)) dX5_row_5 ⟨(Nat.le_of_ble_eq_true rfl), (Nat.le_of_ble_eq_true rfl)⟩) hS (fun H locs hW hS => ?_)
  refine lv_if_ne (tgt := 15) hx hb dX5_row_8 (by decide) (fun c4 => ?_) (fun c4 => ?_)
  · rw [if_neg c4] at hf
    refine lv_iconst (v := 0) hx hb dX5_row_15 (by decide) ?_
    exact t_X5_row_16 C  hf hW hS (lv_sub hl [0, 1, 2] rfl)
  · rw [if_pos c4] at hf
    refine lv_iconst (v := 1) hx hb dX5_row_11 (by decide) ?_
    refine lv_goto (tgt := 16) hx hb dX5_row_12 (by decide) ?_
    exact t_X5_row_16 C  hf hW hS (lv_sub hl [0, 1, 2] rfl)
set_option maxHeartbeats 4000000 in
set_option maxRecDepth 100000 in
theorem m_X5_row (l : Launch) (D : va_G) (cy : Nat → ClassId) (ad : ks_A) (En : Nat → Prop) (n0 : Nat → Prop) (hG : ks_G ad En n0) (hE : ∀ k, ks_g k = 1 → En k) (o : Int64) {N : Nat} {σ : ks_S} {x1 : Int32} {x2 : Int32}  {out : (Int32 × ks_S)} (hf : f_X5_row N σ x1 x2 = some out) : Met l yX5_row wsX5_row (ks_Rm 1 0 0 27) (va_Pc [.ref (ad 14 0 0), .int x1, .int x2] (ks_U D cy ad En n0 σ o)) (ks_Qi D cy ad En n0 o out) 0 0 (ks_F n0) := by
  refine Met.ofW (cc := cX5_row) (maxL := 4) (ret := some .int) (by decide) rfl ?_
  intro p e s m args below meth c s₁ B hml hv
  obtain ⟨rfl, hU⟩ := hv
  have hl := lv_entry ([.ref (ad 14 0 0), .int x1, .int x2]) (n := 4) (Nat.le_of_ble_eq_true rfl)
  rw [lg_entry_eq]
  generalize (lg_sl ([.ref (ad 14 0 0), .int x1, .int x2]) ++ List.replicate (4 - (lg_sl ([.ref (ad 14 0 0), .int x1, .int x2])).length) Slot.unset).toArray = ls at hl ⊢
  exact t_X5_row ⟨B.exec, B.bytes, hml, B.returns, findClass_of_methodNamed B.named, atoms_spec (ws := wsX5_row) B.pre, B.notSynchronized, hG, hU, hE⟩  hf hU.2.1 va_S.rf hl

/-! SpinKernelModel.jobs(II)I -/
def f_X5_jobs_28 (σ : ks_S) (x1 : Int32) (x2 : Int32) (xs0 : Int32) (xs1 : Int32) : Option (Int32 × ks_S) :=
  ((f_X5_refused σ xs1 xs0 0).bind fun (r11, s10) => (if r11 = 0 then (if x2 = 0 then (if ks_in x1 16 = true then some ((s10 35 0 0 x1.toNatClampNeg), s10) else none) else (if x2 = 1 then (if ks_in x1 16 = true then some ((s10 36 0 0 x1.toNatClampNeg), s10) else none) else (if x2 = 2 then (if ks_in x1 16 = true then some ((s10 37 0 0 x1.toNatClampNeg), s10) else none) else (if ks_in x1 16 = true then (if ((s10 26 0 0 x1.toNatClampNeg)) = 0 then some (0, s10) else some (1, s10)) else none)))) else some (0, s10)))
def f_X5_jobs_14 (σ : ks_S) (x1 : Int32) (x2 : Int32) (xs0 : Int32) : Option (Int32 × ks_S) :=
  ((f_X5_within σ x2 0 3).bind fun (r7, s6) => (if r7 = 0 then f_X5_jobs_28 s6 x1 x2 1 xs0 else f_X5_jobs_28 s6 x1 x2 0 xs0))
def f_X5_jobs (σ : ks_S) (x1 : Int32) (x2 : Int32) : Option (Int32 × ks_S) :=
  ((f_X5_isTask σ x1).bind fun (r3, s2) => (if r3 = 0 then f_X5_jobs_14 s2 x1 x2 1 else f_X5_jobs_14 s2 x1 x2 0))
theorem in_X5_jobs_5 : ∀ w ∈ wsX50, w ∈ wsX5_jobs := by decide +kernel
set_option maxHeartbeats 4000000 in
set_option maxRecDepth 100000 in
theorem t_X5_jobs_28 {p : Program} {l : Launch} {e : Env} {s : State} {m : MethodId} {args : Array Value} {below : List Frame} {meth : Method} {c : Code} {D : va_G} {cy : Nat → ClassId} {ad : ks_A} {En : Nat → Prop} {n0 : Nat → Prop} {σ0 : ks_S} {o : Int64} {out : (Int32 × ks_S)} (C : ks_M p s m args meth c D cy ad En (fun k => ks_g k = 1) n0 σ0 o wsX5_jobs cX5_jobs RX5 3 (some .int)) {σ : ks_S} {x1 : Int32} {x2 : Int32} {xs0 : Int32} {xs1 : Int32}  (hf : f_X5_jobs_28 σ x1 x2 xs0 xs1 = some out) {H : Heap} {locs : List Loc} {ls : Array Slot} (hW : ks_W D cy ad En σ o H) (hS : va_S (ks_F n0) s.heap H locs) (hl : lv_has ls 3 [(0, .ref (ad 14 0 0)), (1, .int x1), (2, .int x2)]) : W p l e (ks_Rm 1 0 0 23) s m args below meth c H locs 0 0 (MQ below (ks_Qi D cy ad En n0 o out) args s 0 0 (ks_F n0)) (F0 m 28 ls [.int xs0, .int xs1, .ref (ad 14 0 0)]) := by
  obtain ⟨hx, hb, hml, hr, hown, hts, hlocks, hG, hU0, hE⟩ := id C
  have hK := hU0.2.2
  unfold f_X5_jobs_28 at hf
  refine lv_iconst (v := 0) hx hb dX5_jobs_28 (by decide) ?_
  obtain ⟨⟨r11, s10⟩, hc9, hf⟩ := ks_bind hf
  try dsimp only at hf
  refine ks_calli (va_runV (As := [.int xs1, .int xs0, .int 0]) (rest := []) ⟨hx, hb, hml, hown, hts⟩ (m_X5_refused l D cy ad En n0 hG hE o hc9) (cwV 3 hts gX5_jobs_X5_refused rfl rfl rfl (by decide +kernel) ⟨(Nat.le_of_ble_eq_true rfl), (Nat.le_of_ble_eq_true rfl)⟩) ⟨ks_U.blind, ks_recv hK hW (ks_v14 (i := 0) (j := 0) (hE 14 rfl)) (ks_c14 cy ad o 0 0 _) rfl, fun U hU hWm => ⟨rfl, hU0.now hS hW hWm.alike hU⟩⟩ rfl rfl hl.1 rfl (lv_room (Nat.le_of_ble_eq_true rfl)) dX5_jobs_29 ⟨(Nat.le_of_ble_eq_true rfl), (Nat.le_of_ble_eq_true rfl)⟩) hS (fun H locs hW hS => ?_)
  refine lv_if_eq (tgt := 37) hx hb dX5_jobs_32 (by decide) (fun c12 => ?_) (fun c12 => ?_)
  · rw [if_pos c12] at hf
    refine lv_iload_n hx hb dX5_jobs_37 rfl (lv_at hl 2 rfl) ?_
    refine lv_if_ne (tgt := 50) hx hb dX5_jobs_38 (by decide) (fun c13 => ?_) (fun c13 => ?_)
    · rw [if_neg c13] at hf
      refine lv_iload_n hx hb dX5_jobs_50 rfl (lv_at hl 2 rfl) ?_
      refine lv_iconst (v := 1) hx hb dX5_jobs_51 (by decide) ?_
      refine lv_icmp_ne (tgt := 64) hx hb dX5_jobs_52 (by decide) (fun c14 => ?_) (fun c14 => ?_)
      · rw [if_neg c14] at hf
        refine lv_iload_n hx hb dX5_jobs_64 rfl (lv_at hl 2 rfl) ?_
        refine lv_iconst (v := 2) hx hb dX5_jobs_65 (by decide) ?_
        refine lv_icmp_ne (tgt := 78) hx hb dX5_jobs_66 (by decide) (fun c15 => ?_) (fun c15 => ?_)
        · rw [if_neg c15] at hf
          refine lv_aload_n hx hb dX5_jobs_78 rfl (lv_at hl 0 rfl) ?_
          refine va_get (D := D) (ci := 5) (v := .ref (ad 26 0 0)) (C := RX5) (T := TX5) (N := 34) hx hb hts in_X5_jobs_5 hown hK (ks_P1 hW (ks_v14 (i := 0) (j := 0) (hE 14 rfl)) (ks_c14 cy ad o 0 0 _)) 0 rfl rfl 14 (by decide) (hts (.fieldLink RX5 43 "SpinKernelModel" "open" "[Z") (by decide +kernel)) (fun _ h => h) rfl dX5_jobs_79 ?_
          refine lv_iload_n hx hb dX5_jobs_82 rfl (lv_at hl 1 rfl) ?_
          obtain ⟨hi16, hf⟩ := ks_guard hf
          refine ks_zald hx hb hK hW (ks_v26 (i := 0) (j := 0) (hE 26 rfl)) (ks_c26 cy ad o 0 0 _) hi16 dX5_jobs_83 ?_
          refine lv_if_eq (tgt := 91) hx hb dX5_jobs_84 (by decide) (fun c17 => ?_) (fun c17 => ?_)
          · rw [if_pos c17] at hf
            refine lv_iconst (v := 0) hx hb dX5_jobs_91 (by decide) ?_
            exact ks_iret C hf hW hS dX5_jobs_92
          · rw [if_neg c17] at hf
            refine lv_iconst (v := 1) hx hb dX5_jobs_87 (by decide) ?_
            refine lv_goto (tgt := 92) hx hb dX5_jobs_88 (by decide) ?_
            exact ks_iret C hf hW hS dX5_jobs_92
        · rw [if_pos c15] at hf
          refine lv_aload_n hx hb dX5_jobs_69 rfl (lv_at hl 0 rfl) ?_
          refine va_get (D := D) (ci := 5) (v := .ref (ad 37 0 0)) (C := RX5) (T := TX5) (N := 34) hx hb hts in_X5_jobs_5 hown hK (ks_P1 hW (ks_v14 (i := 0) (j := 0) (hE 14 rfl)) (ks_c14 cy ad o 0 0 _)) 0 rfl rfl 25 (by decide) (hts (.fieldLink RX5 77 "SpinKernelModel" "latest" "[I") (by decide +kernel)) (fun _ h => h) rfl dX5_jobs_70 ?_
          refine lv_iload_n hx hb dX5_jobs_73 rfl (lv_at hl 1 rfl) ?_
          obtain ⟨hi18, hf⟩ := ks_guard hf
          refine ks_iald hx hb hK hW (ks_v37 (i := 0) (j := 0) (hE 37 rfl)) (ks_c37 cy ad o 0 0 _) hi18 dX5_jobs_74 ?_
          refine lv_goto (tgt := 92) hx hb dX5_jobs_75 (by decide) ?_
          exact ks_iret C hf hW hS dX5_jobs_92
      · rw [if_pos c14] at hf
        refine lv_aload_n hx hb dX5_jobs_55 rfl (lv_at hl 0 rfl) ?_
        refine va_get (D := D) (ci := 5) (v := .ref (ad 36 0 0)) (C := RX5) (T := TX5) (N := 34) hx hb hts in_X5_jobs_5 hown hK (ks_P1 hW (ks_v14 (i := 0) (j := 0) (hE 14 rfl)) (ks_c14 cy ad o 0 0 _)) 0 rfl rfl 24 (by decide) (hts (.fieldLink RX5 74 "SpinKernelModel" "greatest" "[I") (by decide +kernel)) (fun _ h => h) rfl dX5_jobs_56 ?_
        refine lv_iload_n hx hb dX5_jobs_59 rfl (lv_at hl 1 rfl) ?_
        obtain ⟨hi19, hf⟩ := ks_guard hf
        refine ks_iald hx hb hK hW (ks_v36 (i := 0) (j := 0) (hE 36 rfl)) (ks_c36 cy ad o 0 0 _) hi19 dX5_jobs_60 ?_
        refine lv_goto (tgt := 92) hx hb dX5_jobs_61 (by decide) ?_
        exact ks_iret C hf hW hS dX5_jobs_92
    · rw [if_pos c13] at hf
      refine lv_aload_n hx hb dX5_jobs_41 rfl (lv_at hl 0 rfl) ?_
      refine va_get (D := D) (ci := 5) (v := .ref (ad 35 0 0)) (C := RX5) (T := TX5) (N := 34) hx hb hts in_X5_jobs_5 hown hK (ks_P1 hW (ks_v14 (i := 0) (j := 0) (hE 14 rfl)) (ks_c14 cy ad o 0 0 _)) 0 rfl rfl 23 (by decide) (hts (.fieldLink RX5 71 "SpinKernelModel" "ended" "[I") (by decide +kernel)) (fun _ h => h) rfl dX5_jobs_42 ?_
      refine lv_iload_n hx hb dX5_jobs_45 rfl (lv_at hl 1 rfl) ?_
      obtain ⟨hi20, hf⟩ := ks_guard hf
      refine ks_iald hx hb hK hW (ks_v35 (i := 0) (j := 0) (hE 35 rfl)) (ks_c35 cy ad o 0 0 _) hi20 dX5_jobs_46 ?_
      refine lv_goto (tgt := 92) hx hb dX5_jobs_47 (by decide) ?_
      exact ks_iret C hf hW hS dX5_jobs_92
  · rw [if_neg c12] at hf
    refine lv_iconst (v := 0) hx hb dX5_jobs_35 (by decide) ?_
    exact ks_iret C hf hW hS dX5_jobs_36
set_option maxHeartbeats 4000000 in
set_option maxRecDepth 100000 in
theorem t_X5_jobs_14 {p : Program} {l : Launch} {e : Env} {s : State} {m : MethodId} {args : Array Value} {below : List Frame} {meth : Method} {c : Code} {D : va_G} {cy : Nat → ClassId} {ad : ks_A} {En : Nat → Prop} {n0 : Nat → Prop} {σ0 : ks_S} {o : Int64} {out : (Int32 × ks_S)} (C : ks_M p s m args meth c D cy ad En (fun k => ks_g k = 1) n0 σ0 o wsX5_jobs cX5_jobs RX5 3 (some .int)) {σ : ks_S} {x1 : Int32} {x2 : Int32} {xs0 : Int32}  (hf : f_X5_jobs_14 σ x1 x2 xs0 = some out) {H : Heap} {locs : List Loc} {ls : Array Slot} (hW : ks_W D cy ad En σ o H) (hS : va_S (ks_F n0) s.heap H locs) (hl : lv_has ls 3 [(0, .ref (ad 14 0 0)), (1, .int x1), (2, .int x2)]) : W p l e (ks_Rm 1 0 0 23) s m args below meth c H locs 0 0 (MQ below (ks_Qi D cy ad En n0 o out) args s 0 0 (ks_F n0)) (F0 m 14 ls [.int xs0, .ref (ad 14 0 0)]) := by
  obtain ⟨hx, hb, hml, hr, hown, hts, hlocks, hG, hU0, hE⟩ := id C
  have hK := hU0.2.2
  unfold f_X5_jobs_14 at hf
  refine lv_iload_n hx hb dX5_jobs_14 rfl (lv_at hl 2 rfl) ?_
  refine lv_iconst (v := 0) hx hb dX5_jobs_15 (by decide) ?_
  refine lv_iconst (v := 3) hx hb dX5_jobs_16 (by decide) ?_
  obtain ⟨⟨r7, s6⟩, hc5, hf⟩ := ks_bind hf
  try dsimp only at hf
  refine ks_calli (va_runS (As := [.int x2, .int 0, .int 3]) (rest := [.int xs0, .ref (ad 14 0 0)]) ⟨hx, hb, hml, hown, hts⟩ (m_X5_within l D cy ad En n0 hG hE o hc5) (va_cwS 3 hts gX5_jobs_X5_within rfl rfl rfl (by decide +kernel) ⟨(Nat.le_of_ble_eq_true rfl), (Nat.le_of_ble_eq_true rfl)⟩) ⟨ks_U.blind, fun U hU hWm => ⟨rfl, hU0.now hS hW hWm.alike hU⟩⟩ rfl rfl hl.1 rfl (lv_room (Nat.le_of_ble_eq_true rfl)) dX5_jobs_17 ⟨(Nat.le_of_ble_eq_true rfl), (Nat.le_of_ble_eq_true rfl)⟩) hS (fun H locs hW hS => ?_)
  refine lv_if_ne (tgt := 27) hx hb dX5_jobs_20 (by decide) (fun c8 => ?_) (fun c8 => ?_)
  · rw [if_neg c8] at hf
    refine lv_iconst (v := 0) hx hb dX5_jobs_27 (by decide) ?_
    exact t_X5_jobs_28 C  hf hW hS (lv_sub hl [0, 1, 2] rfl)
  · rw [if_pos c8] at hf
    refine lv_iconst (v := 1) hx hb dX5_jobs_23 (by decide) ?_
    refine lv_goto (tgt := 28) hx hb dX5_jobs_24 (by decide) ?_
    exact t_X5_jobs_28 C  hf hW hS (lv_sub hl [0, 1, 2] rfl)
set_option maxHeartbeats 4000000 in
set_option maxRecDepth 100000 in
theorem t_X5_jobs {p : Program} {l : Launch} {e : Env} {s : State} {m : MethodId} {args : Array Value} {below : List Frame} {meth : Method} {c : Code} {D : va_G} {cy : Nat → ClassId} {ad : ks_A} {En : Nat → Prop} {n0 : Nat → Prop} {σ0 : ks_S} {o : Int64} {out : (Int32 × ks_S)} (C : ks_M p s m args meth c D cy ad En (fun k => ks_g k = 1) n0 σ0 o wsX5_jobs cX5_jobs RX5 3 (some .int)) {σ : ks_S} {x1 : Int32} {x2 : Int32}  (hf : f_X5_jobs σ x1 x2 = some out) {H : Heap} {locs : List Loc} {ls : Array Slot} (hW : ks_W D cy ad En σ o H) (hS : va_S (ks_F n0) s.heap H locs) (hl : lv_has ls 3 [(0, .ref (ad 14 0 0)), (1, .int x1), (2, .int x2)]) : W p l e (ks_Rm 1 0 0 23) s m args below meth c H locs 0 0 (MQ below (ks_Qi D cy ad En n0 o out) args s 0 0 (ks_F n0)) (F0 m 0 ls []) := by
  obtain ⟨hx, hb, hml, hr, hown, hts, hlocks, hG, hU0, hE⟩ := id C
  have hK := hU0.2.2
  unfold f_X5_jobs at hf
  refine lv_aload_n hx hb dX5_jobs_0 rfl (lv_at hl 0 rfl) ?_
  refine lv_aload_n hx hb dX5_jobs_1 rfl (lv_at hl 0 rfl) ?_
  refine lv_iload_n hx hb dX5_jobs_2 rfl (lv_at hl 1 rfl) ?_
  obtain ⟨⟨r3, s2⟩, hc1, hf⟩ := ks_bind hf
  try dsimp only at hf
  refine ks_calli (va_runV (As := [.int x1]) (rest := [.ref (ad 14 0 0)]) ⟨hx, hb, hml, hown, hts⟩ (m_X5_isTask l D cy ad En n0 hG hE o hc1) (cwV 1 hts gX5_jobs_X5_isTask rfl rfl rfl (by decide +kernel) ⟨(Nat.le_of_ble_eq_true rfl), (Nat.le_of_ble_eq_true rfl)⟩) ⟨ks_U.blind, ks_recv hK hW (ks_v14 (i := 0) (j := 0) (hE 14 rfl)) (ks_c14 cy ad o 0 0 _) rfl, fun U hU hWm => ⟨rfl, hU0.now hS hW hWm.alike hU⟩⟩ rfl rfl hl.1 rfl (lv_room (Nat.le_of_ble_eq_true rfl)) dX5_jobs_3 ⟨(Nat.le_of_ble_eq_true rfl), (Nat.le_of_ble_eq_true rfl)⟩) hS (fun H locs hW hS => ?_)
  refine lv_if_ne (tgt := 13) hx hb dX5_jobs_6 (by decide) (fun c4 => ?_) (fun c4 => ?_)
  · rw [if_neg c4] at hf
    refine lv_iconst (v := 0) hx hb dX5_jobs_13 (by decide) ?_
    exact t_X5_jobs_14 C  hf hW hS (lv_sub hl [0, 1, 2] rfl)
  · rw [if_pos c4] at hf
    refine lv_iconst (v := 1) hx hb dX5_jobs_9 (by decide) ?_
    refine lv_goto (tgt := 14) hx hb dX5_jobs_10 (by decide) ?_
    exact t_X5_jobs_14 C  hf hW hS (lv_sub hl [0, 1, 2] rfl)
set_option maxHeartbeats 4000000 in
set_option maxRecDepth 100000 in
theorem m_X5_jobs (l : Launch) (D : va_G) (cy : Nat → ClassId) (ad : ks_A) (En : Nat → Prop) (n0 : Nat → Prop) (hG : ks_G ad En n0) (hE : ∀ k, ks_g k = 1 → En k) (o : Int64) {σ : ks_S} {x1 : Int32} {x2 : Int32}  {out : (Int32 × ks_S)} (hf : f_X5_jobs σ x1 x2 = some out) : Met l yX5_jobs wsX5_jobs (ks_Rm 1 0 0 23) (va_Pc [.ref (ad 14 0 0), .int x1, .int x2] (ks_U D cy ad En n0 σ o)) (ks_Qi D cy ad En n0 o out) 0 0 (ks_F n0) := by
  refine Met.ofW (cc := cX5_jobs) (maxL := 3) (ret := some .int) (by decide) rfl ?_
  intro p e s m args below meth c s₁ B hml hv
  obtain ⟨rfl, hU⟩ := hv
  have hl := lv_entry ([.ref (ad 14 0 0), .int x1, .int x2]) (n := 3) (Nat.le_of_ble_eq_true rfl)
  rw [lg_entry_eq]
  generalize (lg_sl ([.ref (ad 14 0 0), .int x1, .int x2]) ++ List.replicate (3 - (lg_sl ([.ref (ad 14 0 0), .int x1, .int x2])).length) Slot.unset).toArray = ls at hl ⊢
  exact t_X5_jobs ⟨B.exec, B.bytes, hml, B.returns, findClass_of_methodNamed B.named, atoms_spec (ws := wsX5_jobs) B.pre, B.notSynchronized, hG, hU, hE⟩  hf hU.2.1 va_S.rf hl

/-! SpinKernelModel.spun(II)I -/
def f_X5_spun_15 (σ : ks_S) (x1 : Int32) (x2 : Int32) (xs0 : Int32) : Option (Int32 × ks_S) :=
  ((f_X5_refused σ xs0 0 0).bind fun (r7, s6) => (if r7 = 0 then (if ks_in ((((6 * x1)) + x2)) 96 = true then some ((s6 38 0 0 ((((6 * x1)) + x2)).toNatClampNeg), s6) else none) else some (0, s6)))
def f_X5_spun (σ : ks_S) (x1 : Int32) (x2 : Int32) : Option (Int32 × ks_S) :=
  ((f_X5_isRequest σ x1 x2).bind fun (r3, s2) => (if r3 = 0 then f_X5_spun_15 s2 x1 x2 1 else f_X5_spun_15 s2 x1 x2 0))
theorem in_X5_spun_5 : ∀ w ∈ wsX50, w ∈ wsX5_spun := by decide +kernel
set_option maxHeartbeats 4000000 in
set_option maxRecDepth 100000 in
theorem t_X5_spun_15 {p : Program} {l : Launch} {e : Env} {s : State} {m : MethodId} {args : Array Value} {below : List Frame} {meth : Method} {c : Code} {D : va_G} {cy : Nat → ClassId} {ad : ks_A} {En : Nat → Prop} {n0 : Nat → Prop} {σ0 : ks_S} {o : Int64} {out : (Int32 × ks_S)} (C : ks_M p s m args meth c D cy ad En (fun k => ks_g k = 1) n0 σ0 o wsX5_spun cX5_spun RX5 3 (some .int)) {σ : ks_S} {x1 : Int32} {x2 : Int32} {xs0 : Int32}  (hf : f_X5_spun_15 σ x1 x2 xs0 = some out) {H : Heap} {locs : List Loc} {ls : Array Slot} (hW : ks_W D cy ad En σ o H) (hS : va_S (ks_F n0) s.heap H locs) (hl : lv_has ls 3 [(0, .ref (ad 14 0 0)), (1, .int x1), (2, .int x2)]) : W p l e (ks_Rm 2 0 0 43) s m args below meth c H locs 0 0 (MQ below (ks_Qi D cy ad En n0 o out) args s 0 0 (ks_F n0)) (F0 m 15 ls [.int xs0, .ref (ad 14 0 0)]) := by
  obtain ⟨hx, hb, hml, hr, hown, hts, hlocks, hG, hU0, hE⟩ := id C
  have hK := hU0.2.2
  unfold f_X5_spun_15 at hf
  refine lv_iconst (v := 0) hx hb dX5_spun_15 (by decide) ?_
  refine lv_iconst (v := 0) hx hb dX5_spun_16 (by decide) ?_
  obtain ⟨⟨r7, s6⟩, hc5, hf⟩ := ks_bind hf
  try dsimp only at hf
  refine ks_calli (va_runV (As := [.int xs0, .int 0, .int 0]) (rest := []) ⟨hx, hb, hml, hown, hts⟩ (m_X5_refused l D cy ad En n0 hG hE o hc5) (cwV 3 hts gX5_spun_X5_refused rfl rfl rfl (by decide +kernel) ⟨(Nat.le_of_ble_eq_true rfl), (Nat.le_of_ble_eq_true rfl)⟩) ⟨ks_U.blind, ks_recv hK hW (ks_v14 (i := 0) (j := 0) (hE 14 rfl)) (ks_c14 cy ad o 0 0 _) rfl, fun U hU hWm => ⟨rfl, hU0.now hS hW hWm.alike hU⟩⟩ rfl rfl hl.1 rfl (lv_room (Nat.le_of_ble_eq_true rfl)) dX5_spun_17 ⟨(Nat.le_of_ble_eq_true rfl), (Nat.le_of_ble_eq_true rfl)⟩) hS (fun H locs hW hS => ?_)
  refine lv_if_eq (tgt := 27) hx hb dX5_spun_20 (by decide) (fun c8 => ?_) (fun c8 => ?_)
  · rw [if_pos c8] at hf
    refine lv_aload_n hx hb dX5_spun_27 rfl (lv_at hl 0 rfl) ?_
    refine va_get (D := D) (ci := 5) (v := .ref (ad 38 0 0)) (C := RX5) (T := TX5) (N := 34) hx hb hts in_X5_spun_5 hown hK (ks_P1 hW (ks_v14 (i := 0) (j := 0) (hE 14 rfl)) (ks_c14 cy ad o 0 0 _)) 0 rfl rfl 26 (by decide) (hts (.fieldLink RX5 80 "SpinKernelModel" "spuns" "[I") (by decide +kernel)) (fun _ h => h) rfl dX5_spun_28 ?_
    refine lv_bipush (v := 6) hx hb dX5_spun_31 (by decide) ?_
    refine lv_iload_n hx hb dX5_spun_33 rfl (lv_at hl 1 rfl) ?_
    refine lv_imul hx hb dX5_spun_34 ?_
    refine lv_iload_n hx hb dX5_spun_35 rfl (lv_at hl 2 rfl) ?_
    refine lv_iadd hx hb dX5_spun_36 ?_
    obtain ⟨hi9, hf⟩ := ks_guard hf
    refine ks_iald hx hb hK hW (ks_v38 (i := 0) (j := 0) (hE 38 rfl)) (ks_c38 cy ad o 0 0 _) hi9 dX5_spun_37 ?_
    exact ks_iret C hf hW hS dX5_spun_38
  · rw [if_neg c8] at hf
    refine lv_iconst (v := 0) hx hb dX5_spun_23 (by decide) ?_
    refine lv_goto (tgt := 38) hx hb dX5_spun_24 (by decide) ?_
    exact ks_iret C hf hW hS dX5_spun_38
set_option maxHeartbeats 4000000 in
set_option maxRecDepth 100000 in
theorem t_X5_spun {p : Program} {l : Launch} {e : Env} {s : State} {m : MethodId} {args : Array Value} {below : List Frame} {meth : Method} {c : Code} {D : va_G} {cy : Nat → ClassId} {ad : ks_A} {En : Nat → Prop} {n0 : Nat → Prop} {σ0 : ks_S} {o : Int64} {out : (Int32 × ks_S)} (C : ks_M p s m args meth c D cy ad En (fun k => ks_g k = 1) n0 σ0 o wsX5_spun cX5_spun RX5 3 (some .int)) {σ : ks_S} {x1 : Int32} {x2 : Int32}  (hf : f_X5_spun σ x1 x2 = some out) {H : Heap} {locs : List Loc} {ls : Array Slot} (hW : ks_W D cy ad En σ o H) (hS : va_S (ks_F n0) s.heap H locs) (hl : lv_has ls 3 [(0, .ref (ad 14 0 0)), (1, .int x1), (2, .int x2)]) : W p l e (ks_Rm 2 0 0 43) s m args below meth c H locs 0 0 (MQ below (ks_Qi D cy ad En n0 o out) args s 0 0 (ks_F n0)) (F0 m 0 ls []) := by
  obtain ⟨hx, hb, hml, hr, hown, hts, hlocks, hG, hU0, hE⟩ := id C
  have hK := hU0.2.2
  unfold f_X5_spun at hf
  refine lv_aload_n hx hb dX5_spun_0 rfl (lv_at hl 0 rfl) ?_
  refine lv_aload_n hx hb dX5_spun_1 rfl (lv_at hl 0 rfl) ?_
  refine lv_iload_n hx hb dX5_spun_2 rfl (lv_at hl 1 rfl) ?_
  refine lv_iload_n hx hb dX5_spun_3 rfl (lv_at hl 2 rfl) ?_
  obtain ⟨⟨r3, s2⟩, hc1, hf⟩ := ks_bind hf
  try dsimp only at hf
  refine ks_calli (va_runV (As := [.int x1, .int x2]) (rest := [.ref (ad 14 0 0)]) ⟨hx, hb, hml, hown, hts⟩ (m_X5_isRequest l D cy ad En n0 hG hE o hc1) (cwV 2 hts gX5_spun_X5_isRequest rfl rfl rfl (by decide +kernel) ⟨(Nat.le_of_ble_eq_true rfl), (Nat.le_of_ble_eq_true rfl)⟩) ⟨ks_U.blind, ks_recv hK hW (ks_v14 (i := 0) (j := 0) (hE 14 rfl)) (ks_c14 cy ad o 0 0 _) rfl, fun U hU hWm => ⟨rfl, hU0.now hS hW hWm.alike hU⟩⟩ rfl rfl hl.1 rfl (lv_room (Nat.le_of_ble_eq_true rfl)) dX5_spun_4 ⟨(Nat.le_of_ble_eq_true rfl), (Nat.le_of_ble_eq_true rfl)⟩) hS (fun H locs hW hS => ?_)
  refine lv_if_ne (tgt := 14) hx hb dX5_spun_7 (by decide) (fun c4 => ?_) (fun c4 => ?_)
  · rw [if_neg c4] at hf
    refine lv_iconst (v := 0) hx hb dX5_spun_14 (by decide) ?_
    exact t_X5_spun_15 C  hf hW hS (lv_sub hl [0, 1, 2] rfl)
  · rw [if_pos c4] at hf
    refine lv_iconst (v := 1) hx hb dX5_spun_10 (by decide) ?_
    refine lv_goto (tgt := 15) hx hb dX5_spun_11 (by decide) ?_
    exact t_X5_spun_15 C  hf hW hS (lv_sub hl [0, 1, 2] rfl)
set_option maxHeartbeats 4000000 in
set_option maxRecDepth 100000 in
theorem m_X5_spun (l : Launch) (D : va_G) (cy : Nat → ClassId) (ad : ks_A) (En : Nat → Prop) (n0 : Nat → Prop) (hG : ks_G ad En n0) (hE : ∀ k, ks_g k = 1 → En k) (o : Int64) {σ : ks_S} {x1 : Int32} {x2 : Int32}  {out : (Int32 × ks_S)} (hf : f_X5_spun σ x1 x2 = some out) : Met l yX5_spun wsX5_spun (ks_Rm 2 0 0 43) (va_Pc [.ref (ad 14 0 0), .int x1, .int x2] (ks_U D cy ad En n0 σ o)) (ks_Qi D cy ad En n0 o out) 0 0 (ks_F n0) := by
  refine Met.ofW (cc := cX5_spun) (maxL := 3) (ret := some .int) (by decide) rfl ?_
  intro p e s m args below meth c s₁ B hml hv
  obtain ⟨rfl, hU⟩ := hv
  have hl := lv_entry ([.ref (ad 14 0 0), .int x1, .int x2]) (n := 3) (Nat.le_of_ble_eq_true rfl)
  rw [lg_entry_eq]
  generalize (lg_sl ([.ref (ad 14 0 0), .int x1, .int x2]) ++ List.replicate (3 - (lg_sl ([.ref (ad 14 0 0), .int x1, .int x2])).length) Slot.unset).toArray = ls at hl ⊢
  exact t_X5_spun ⟨B.exec, B.bytes, hml, B.returns, findClass_of_methodNamed B.named, atoms_spec (ws := wsX5_spun) B.pre, B.notSynchronized, hG, hU, hE⟩  hf hU.2.1 va_S.rf hl

/-! SpinKernelModel.late()I -/
def f_X5_late_12 (N : Nat) : Nat → ks_S → Int32 → Int32 → Option (Int32 × ks_S)
  | 0, _, _, _ => none
  | n + 1, σ, x1, x2 => (if 16 ≤ x2 then some (x1, σ) else (if ks_in x2 16 = true then (if ((σ 26 0 0 x2.toNatClampNeg)) = 0 then f_X5_late_12 N n σ x1 ((x2 + 1)) else (if ks_in x2 16 = true then (if ks_in x2 16 = true then (if ((((σ 14 0 0 13)) - ((σ 28 0 0 x2.toNatClampNeg)))) ≤ ((σ 18 0 0 x2.toNatClampNeg)) then f_X5_late_12 N n σ x1 ((x2 + 1)) else f_X5_late_12 N n σ ((x1 + 1)) ((x2 + 1))) else none) else none)) else none))
def f_X5_late (N : Nat) (σ : ks_S)  : Option (Int32 × ks_S) :=
  f_X5_late_12 N N ((ks_up σ 14 0 0 0 0)) ((((ks_up σ 14 0 0 0 0)) 14 0 0 27)) 0
theorem in_X5_late_5 : ∀ w ∈ wsX50, w ∈ wsX5_late := by decide +kernel
set_option maxHeartbeats 4000000 in
set_option maxRecDepth 100000 in
theorem t_X5_late_12 {p : Program} {l : Launch} {e : Env} {s : State} {m : MethodId} {args : Array Value} {below : List Frame} {meth : Method} {c : Code} {D : va_G} {cy : Nat → ClassId} {ad : ks_A} {En : Nat → Prop} {n0 : Nat → Prop} {σ0 : ks_S} {o : Int64} {N : Nat} {out : (Int32 × ks_S)} (C : ks_M p s m args meth c D cy ad En (fun k => ks_g k = 1) n0 σ0 o wsX5_late cX5_late RX5 3 (some .int)) : ∀ (n : Nat) (σ : ks_S) (x1 : Int32) (x2 : Int32), f_X5_late_12 N n σ x1 x2 = some out → ∀ {H : Heap} {locs : List Loc} {ls : Array Slot}, ks_W D cy ad En σ o H → va_S (ks_F n0) s.heap H locs → lv_has ls 3 [(0, .ref (ad 14 0 0)), (1, .int x1), (2, .int x2)] → W p l e (ks_Rm 0 0 0 0) s m args below meth c H locs 0 0 (MQ below (ks_Qi D cy ad En n0 o out) args s 0 0 (ks_F n0)) (F0 m 12 ls []) := by
  obtain ⟨hx, hb, hml, hr, hown, hts, hlocks, hG, hU0, hE⟩ := id C
  have hK := hU0.2.2
  intro n
  induction n with
  | zero => intro σ x1 x2; intro  hf; exact absurd hf (by simp [f_X5_late_12])
  | succ n hk12 =>
    intro σ x1 x2  hf H locs ls hW hS hl
    rw [f_X5_late_12] at hf
    refine lv_iload_n hx hb dX5_late_12 rfl (lv_at hl 2 rfl) ?_
    refine lv_bipush (v := 16) hx hb dX5_late_13 (by decide) ?_
    refine lv_icmp_ge (tgt := 61) hx hb dX5_late_15 (by decide) (fun c1 => ?_) (fun c1 => ?_)
    · rw [if_pos c1] at hf
      refine lv_iload_n hx hb dX5_late_61 rfl (lv_at hl 1 rfl) ?_
      exact ks_iret C hf hW hS dX5_late_62
    · rw [if_neg c1] at hf
      refine lv_aload_n hx hb dX5_late_18 rfl (lv_at hl 0 rfl) ?_
      refine va_get (D := D) (ci := 5) (v := .ref (ad 26 0 0)) (C := RX5) (T := TX5) (N := 34) hx hb hts in_X5_late_5 hown hK (ks_P1 hW (ks_v14 (i := 0) (j := 0) (hE 14 rfl)) (ks_c14 cy ad o 0 0 _)) 0 rfl rfl 14 (by decide) (hts (.fieldLink RX5 43 "SpinKernelModel" "open" "[Z") (by decide +kernel)) (fun _ h => h) rfl dX5_late_19 ?_
      refine lv_iload_n hx hb dX5_late_22 rfl (lv_at hl 2 rfl) ?_
      obtain ⟨hi2, hf⟩ := ks_guard hf
      refine ks_zald hx hb hK hW (ks_v26 (i := 0) (j := 0) (hE 26 rfl)) (ks_c26 cy ad o 0 0 _) hi2 dX5_late_23 ?_
      refine lv_if_eq (tgt := 53) hx hb dX5_late_24 (by decide) (fun c3 => ?_) (fun c3 => ?_)
      · rw [if_pos c3] at hf
        refine lv_iload_n hx hb dX5_late_53 rfl (lv_at hl 1 rfl) ?_
        refine lv_istore_n (lv' := [(1, .int x1), (0, .ref (ad 14 0 0)), (2, .int x2)]) hx hb dX5_late_54 rfl hl (by decide) rfl (fun ls hl => ?_)
        refine lv_iinc (v := (x2 + 1)) (lv' := [(2, .int (x2 + 1)), (1, .int x1), (0, .ref (ad 14 0 0))]) hx hb dX5_late_55 hl (k := 2) rfl rfl (by decide) rfl (fun ls hl => ?_)
        refine lv_goto (tgt := 12) hx hb dX5_late_58 (by decide) ?_
        exact hk12 _ _ _ hf hW hS (lv_sub hl [2, 1, 0] rfl)
      · rw [if_neg c3] at hf
        refine lv_aload_n hx hb dX5_late_27 rfl (lv_at hl 0 rfl) ?_
        refine va_get (D := D) (ci := 5) (v := .int (σ 14 0 0 13)) (C := RX5) (T := TX5) (N := 34) hx hb hts in_X5_late_5 hown hK (ks_P1 hW (ks_v14 (i := 0) (j := 0) (hE 14 rfl)) (ks_c14 cy ad o 0 0 _)) 0 rfl rfl 13 (by decide) (hts (.fieldLink RX5 158 "SpinKernelModel" "now" "I") (by decide +kernel)) (fun _ h => h) rfl dX5_late_28 ?_
        refine lv_aload_n hx hb dX5_late_31 rfl (lv_at hl 0 rfl) ?_
        refine va_get (D := D) (ci := 5) (v := .ref (ad 28 0 0)) (C := RX5) (T := TX5) (N := 34) hx hb hts in_X5_late_5 hown hK (ks_P1 hW (ks_v14 (i := 0) (j := 0) (hE 14 rfl)) (ks_c14 cy ad o 0 0 _)) 0 rfl rfl 16 (by decide) (hts (.fieldLink RX5 50 "SpinKernelModel" "times" "[I") (by decide +kernel)) (fun _ h => h) rfl dX5_late_32 ?_
        refine lv_iload_n hx hb dX5_late_35 rfl (lv_at hl 2 rfl) ?_
        obtain ⟨hi4, hf⟩ := ks_guard hf
        refine ks_iald hx hb hK hW (ks_v28 (i := 0) (j := 0) (hE 28 rfl)) (ks_c28 cy ad o 0 0 _) hi4 dX5_late_36 ?_
        refine lv_isub hx hb dX5_late_37 ?_
        refine lv_aload_n hx hb dX5_late_38 rfl (lv_at hl 0 rfl) ?_
        refine va_get (D := D) (ci := 5) (v := .ref (ad 18 0 0)) (C := RX5) (T := TX5) (N := 34) hx hb hts in_X5_late_5 hown hK (ks_P1 hW (ks_v14 (i := 0) (j := 0) (hE 14 rfl)) (ks_c14 cy ad o 0 0 _)) 0 rfl rfl 4 (by decide) (hts (.fieldLink RX5 19 "SpinKernelModel" "deadlines" "[I") (by decide +kernel)) (fun _ h => h) rfl dX5_late_39 ?_
        refine lv_iload_n hx hb dX5_late_42 rfl (lv_at hl 2 rfl) ?_
        obtain ⟨hi5, hf⟩ := ks_guard hf
        refine ks_iald hx hb hK hW (ks_v18 (i := 0) (j := 0) (hE 18 rfl)) (ks_c18 cy ad o 0 0 _) hi5 dX5_late_43 ?_
        refine lv_icmp_le (tgt := 53) hx hb dX5_late_44 (by decide) (fun c6 => ?_) (fun c6 => ?_)
        · rw [if_pos c6] at hf
          refine lv_iload_n hx hb dX5_late_53 rfl (lv_at hl 1 rfl) ?_
          refine lv_istore_n (lv' := [(1, .int x1), (0, .ref (ad 14 0 0)), (2, .int x2)]) hx hb dX5_late_54 rfl hl (by decide) rfl (fun ls hl => ?_)
          refine lv_iinc (v := (x2 + 1)) (lv' := [(2, .int (x2 + 1)), (1, .int x1), (0, .ref (ad 14 0 0))]) hx hb dX5_late_55 hl (k := 2) rfl rfl (by decide) rfl (fun ls hl => ?_)
          refine lv_goto (tgt := 12) hx hb dX5_late_58 (by decide) ?_
          exact hk12 _ _ _ hf hW hS (lv_sub hl [2, 1, 0] rfl)
        · rw [if_neg c6] at hf
          refine lv_iload_n hx hb dX5_late_47 rfl (lv_at hl 1 rfl) ?_
          refine lv_iconst (v := 1) hx hb dX5_late_48 (by decide) ?_
          refine lv_iadd hx hb dX5_late_49 ?_
          refine lv_goto (tgt := 54) hx hb dX5_late_50 (by decide) ?_
          refine lv_istore_n (lv' := [(1, .int (x1 + 1)), (0, .ref (ad 14 0 0)), (2, .int x2)]) hx hb dX5_late_54 rfl hl (by decide) rfl (fun ls hl => ?_)
          refine lv_iinc (v := (x2 + 1)) (lv' := [(2, .int (x2 + 1)), (1, .int (x1 + 1)), (0, .ref (ad 14 0 0))]) hx hb dX5_late_55 hl (k := 2) rfl rfl (by decide) rfl (fun ls hl => ?_)
          refine lv_goto (tgt := 12) hx hb dX5_late_58 (by decide) ?_
          exact hk12 _ _ _ hf hW hS (lv_sub hl [2, 1, 0] rfl)
set_option maxHeartbeats 4000000 in
set_option maxRecDepth 100000 in
theorem t_X5_late {p : Program} {l : Launch} {e : Env} {s : State} {m : MethodId} {args : Array Value} {below : List Frame} {meth : Method} {c : Code} {D : va_G} {cy : Nat → ClassId} {ad : ks_A} {En : Nat → Prop} {n0 : Nat → Prop} {σ0 : ks_S} {o : Int64} {N : Nat} {out : (Int32 × ks_S)} (C : ks_M p s m args meth c D cy ad En (fun k => ks_g k = 1) n0 σ0 o wsX5_late cX5_late RX5 3 (some .int)) {σ : ks_S}   (hf : f_X5_late N σ  = some out) {H : Heap} {locs : List Loc} {ls : Array Slot} (hW : ks_W D cy ad En σ o H) (hS : va_S (ks_F n0) s.heap H locs) (hl : lv_has ls 3 [(0, .ref (ad 14 0 0))]) : W p l e (ks_Rm 0 0 0 0) s m args below meth c H locs 0 0 (MQ below (ks_Qi D cy ad En n0 o out) args s 0 0 (ks_F n0)) (F0 m 0 ls []) := by
  obtain ⟨hx, hb, hml, hr, hown, hts, hlocks, hG, hU0, hE⟩ := id C
  have hK := hU0.2.2
  unfold f_X5_late at hf
  refine lv_aload_n hx hb dX5_late_0 rfl (lv_at hl 0 rfl) ?_
  refine lv_iconst (v := 0) hx hb dX5_late_1 (by decide) ?_
  refine ks_put (D := D) (ci := 5) (C := RX5) (T := TX5) (N := 34) hx hb hts in_X5_late_5 tyX5 tyX5_ok nmX5 hown hK hG hW hS (ks_v14 (i := 0) (j := 0) (hE 14 rfl)) 0 (v := 0) (ks_c14 cy ad o 0 0 _) (ks_c14s0 cy ad o 0 0 _ _) rfl (by decide) (hts (.fieldLink RX5 104 "SpinKernelModel" "thrown" "I") (by decide +kernel)) rfl (ty := .int) (by decide +kernel) rfl rfl (Nat.le_of_ble_eq_true rfl) dX5_late_2 (fun H locs hW hS => ?_)
  refine lv_aload_n hx hb dX5_late_5 rfl (lv_at hl 0 rfl) ?_
  refine va_get (D := D) (ci := 5) (v := .int (((ks_up σ 14 0 0 0 0)) 14 0 0 27)) (C := RX5) (T := TX5) (N := 34) hx hb hts in_X5_late_5 hown hK (ks_P1 hW (ks_v14 (i := 0) (j := 0) (hE 14 rfl)) (ks_c14 cy ad o 0 0 _)) 0 rfl rfl 27 (by decide) (hts (.fieldLink RX5 161 "SpinKernelModel" "behind" "I") (by decide +kernel)) (fun _ h => h) rfl dX5_late_6 ?_
  refine lv_istore_n (lv' := [(1, .int (((ks_up σ 14 0 0 0 0)) 14 0 0 27)), (0, .ref (ad 14 0 0))]) hx hb dX5_late_9 rfl hl (by decide) rfl (fun ls hl => ?_)
  refine lv_iconst (v := 0) hx hb dX5_late_10 (by decide) ?_
  refine lv_istore_n (lv' := [(2, .int 0), (1, .int (((ks_up σ 14 0 0 0 0)) 14 0 0 27)), (0, .ref (ad 14 0 0))]) hx hb dX5_late_11 rfl hl (by decide) rfl (fun ls hl => ?_)
  exact t_X5_late_12 C _ _ _ _  hf hW hS (lv_sub hl [2, 1, 0] rfl)
set_option maxHeartbeats 4000000 in
set_option maxRecDepth 100000 in
theorem m_X5_late (l : Launch) (D : va_G) (cy : Nat → ClassId) (ad : ks_A) (En : Nat → Prop) (n0 : Nat → Prop) (hG : ks_G ad En n0) (hE : ∀ k, ks_g k = 1 → En k) (o : Int64) {N : Nat} {σ : ks_S}   {out : (Int32 × ks_S)} (hf : f_X5_late N σ  = some out) : Met l yX5_late wsX5_late (ks_Rm 0 0 0 0) (va_Pc [.ref (ad 14 0 0)] (ks_U D cy ad En n0 σ o)) (ks_Qi D cy ad En n0 o out) 0 0 (ks_F n0) := by
  refine Met.ofW (cc := cX5_late) (maxL := 3) (ret := some .int) (by decide) rfl ?_
  intro p e s m args below meth c s₁ B hml hv
  obtain ⟨rfl, hU⟩ := hv
  have hl := lv_entry ([.ref (ad 14 0 0)]) (n := 3) (Nat.le_of_ble_eq_true rfl)
  rw [lg_entry_eq]
  generalize (lg_sl ([.ref (ad 14 0 0)]) ++ List.replicate (3 - (lg_sl ([.ref (ad 14 0 0)])).length) Slot.unset).toArray = ls at hl ⊢
  exact t_X5_late ⟨B.exec, B.bytes, hml, B.returns, findClass_of_methodNamed B.named, atoms_spec (ws := wsX5_late) B.pre, B.notSynchronized, hG, hU, hE⟩  hf hU.2.1 va_S.rf hl
