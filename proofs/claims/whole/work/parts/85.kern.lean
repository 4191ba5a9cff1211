/-! The class's constructor: its end is the world of the class's kinds. -/
abbrev ks_E0 : Nat → Prop := fun k => ks_g k = 0
/-- the ints that a fresh object holds -/
def ks_k0 : ks_S := fun k _ _ z => if k = 9 ∧ z = 3 then 1 else if k = 3 then nI z else if k = 6 ∧ z < 4 then -1 else 0
theorem ks_joinL {A0 : Nat → Prop} {D : va_G} {cl : List vw_C} {ws w1 : va_W} {x : Nat × va_E} {H H1 : Heap} (hP : va_P D cl (ws ++ [x]) H) (hD : va_D A0 (ws ++ [x])) (hk : ∀ q : Nat, q < H.size → ¬ va_A [x] H.size q → H1[q]? = H[q]?) (hF : ∀ q, va_A [x] H.size q → A0 q) (hP1 : va_P D cl w1 H1) (hD1 : va_D (va_A [x] H.size) w1) : va_P D cl (ws ++ w1) H1 ∧ va_D A0 (ws ++ w1) := by
  have up : ∀ (k : Nat) (q : Nat × va_E), ws[k]? = some q → (ws ++ [x])[k]? = some q := fun k q hq => by
    rw [List.getElem?_append_left (List.getElem?_eq_some_iff.mp hq).1]
    exact hq
  have apart : ∀ (k : Nat) (q : Nat × va_E), ws[k]? = some q → q.1 < H.size ∧ ¬ va_A [x] H.size q.1 := by
    intro k q hq
    have hl := (hP k q (up k q hq)).lt
    refine ⟨hl, fun h => ?_⟩
    rcases h with ⟨k2, e, h⟩ | h
    · have hz : k2 < 1 := (List.getElem?_eq_some_iff.mp h).1
      have h0 : k2 = 0 := by omega
      subst h0
      have hx : x = (q.1, e) := Option.some.inj h
      have hij := hD.1 k ws.length q x (up k q hq) (by rw [List.getElem?_append_right (Nat.le_refl _), Nat.sub_self]; rfl) (by rw [hx])
      have := (List.getElem?_eq_some_iff.mp hq).1
      omega
    · omega
  refine ⟨va_P.app (fun k q hq => (hP k q (up k q hq)).kept (hk q.1 (apart k q hq).1 (apart k q hq).2)) hP1, va_D.app ⟨fun i j p q hp hq e => hD.1 i j p q (up i p hp) (up j q hq) e, fun k q hq => hD.2 k q (up k q hq)⟩ (hD1.weaken (fun k q _ h => hF q.1 h)) (fun i j p q hp hq e => ?_)⟩
  exact (apart i p hp).2 (by rw [e]; exact hD1.2 j q hq)
theorem ks_freeL {A0 : Nat → Prop} {ws : va_W} {x : Nat × va_E} {H0 H : Heap} {locs : List Loc} (hD : va_D A0 (ws ++ [x])) (hS : va_S A0 H0 H locs) (hA : ∀ q, H0.size ≤ q → A0 q) : ∀ q, va_A [x] H.size q → A0 q := by
  intro q h
  rcases h with ⟨k2, e, h⟩ | h
  · have hz : k2 < 1 := (List.getElem?_eq_some_iff.mp h).1
    have h0 : k2 = 0 := by omega
    subst h0
    have hx : x = (q, e) := Option.some.inj h
    have := hD.2 ws.length x (by rw [List.getElem?_append_right (Nat.le_refl _), Nat.sub_self]; rfl)
    rw [hx] at this
    exact this
  · exact hA q (Nat.le_trans hS.1 h)
theorem ks_lastP {D : va_G} {cl : List vw_C} {ws : va_W} {x : Nat × va_E} {H : Heap} (hP : va_P D cl (ws ++ [x]) H) : va_P D cl [x] H := by
  intro k q hq
  have hz : k < 1 := (List.getElem?_eq_some_iff.mp hq).1
  have h0 : k = 0 := by omega
  subst h0
  cases hq
  exact hP ws.length x (by rw [List.getElem?_append_right (Nat.le_refl _), Nat.sub_self]; rfl)
theorem ks_oneD (x : Nat × va_E) : va_D (fun _ => True) [x] := by
  refine ⟨fun i j p q hp hq _ => ?_, fun _ _ _ => trivial⟩
  have h1 : i < 1 := (List.getElem?_eq_some_iff.mp hp).1
  have h2 : j < 1 := (List.getElem?_eq_some_iff.mp hq).1
  omega
/-- the object and its arrays, ahead of the tasks and rows -/
def ks_b (cy : Nat → ClassId) (h0 qt qw ql qg : Nat) (r : Nat → Nat) (qc qd : Nat) (f g : Nat → Option Nat) (lf cf df : Nat → Int32) : va_W := [(h0, .inr (4, [.ref qt, .ref qw, .ref ql, .ref qg, .ref qc, .ref qd, .int 0, .int 0])), (qt, .inl (cy 3, 16, .inr (.inr (.inr (.inr f))))), (qw, .inl (cy 4, 8, .inr (.inr (.inr (.inr g))))), (ql, .inl (cy 0, 8, .inl lf)), (qg, .inl (cy 6, 4, .inr (.inr (.inr (.inr (fun i => if i < 4 then some (r i) else none)))))), (r 0, .inl (cy 0, 8, .inl (fun _ => 0))), (r 1, .inl (cy 0, 8, .inl (fun _ => 0))), (r 2, .inl (cy 0, 8, .inl (fun _ => 0))), (r 3, .inl (cy 0, 8, .inl (fun _ => 0))), (qc, .inl (cy 0, 4, .inl cf)), (qd, .inl (cy 0, 4, .inl df))]
/-- t tasks made, in their order -/
def ks_It (cy : Nat → ClassId) (t : Nat) (f : Nat → Option Nat) (tk : Nat → Nat) (U : Nat → Nat → Nat) (mk : va_W) : Prop := mk.length = 9 * t ∧ (∀ i, i < t → f i = some (tk i)) ∧ ∀ i, i < t → ∀ n, n < 9 → mk[9 * i + n]? = (ks_tk cy (tk i) (U i))[n]?
def ks_Ir (cy : Nat → ClassId) (t : Nat) (g : Nat → Option Nat) (lf : Nat → Int32) (rk V : Nat → Nat) (mk : va_W) : Prop := mk.length = 2 * t ∧ (∀ i, i < t → g i = some (rk i) ∧ lf i = nI i) ∧ ∀ i, i < t → ∀ n, n < 2 → mk[2 * i + n]? = (ks_rw cy (rk i) (V i))[n]?
theorem ks_It.more {cy : Nat → ClassId} {t : Nat} {f : Nat → Option Nat} {tk : Nat → Nat} {U : Nat → Nat → Nat} {mk : va_W} (h : ks_It cy t f tk U mk) (q : Nat) (u : Nat → Nat) : ks_It cy (t + 1) (va_up f t (some q)) (fun i => if i = t then q else tk i) (fun i => if i = t then u else U i) (mk ++ ks_tk cy q u) := by
  obtain ⟨h1, h2, h3⟩ := h
  refine ⟨by rw [List.length_append, h1]; show 9 * t + 9 = _; omega, fun i hi => ?_, fun i hi n hn => ?_⟩
  · by_cases e : i = t
    · subst e; simp [va_up]
    · simp only [va_up, e, if_false]; exact h2 i (by omega)
  · by_cases e : i = t
    · subst e
      rw [List.getElem?_append_right (by omega), h1, Nat.add_sub_cancel_left]
      simp
    · rw [List.getElem?_append_left (by omega), h3 i (by omega) n hn]
      simp only [e, if_false]
theorem ks_Ir.more {cy : Nat → ClassId} {t : Nat} {g : Nat → Option Nat} {lf : Nat → Int32} {rk V : Nat → Nat} {mk : va_W} (h : ks_Ir cy t g lf rk V mk) (q v : Nat) : ks_Ir cy (t + 1) (va_up g t (some q)) (upd lf t (nI t)) (fun i => if i = t then q else rk i) (fun i => if i = t then v else V i) (mk ++ ks_rw cy q v) := by
  obtain ⟨h1, h2, h3⟩ := h
  refine ⟨by rw [List.length_append, h1]; show 2 * t + 2 = _; omega, fun i hi => ?_, fun i hi n hn => ?_⟩
  · by_cases e : i = t
    · subst e; simp [va_up, upd]
    · simp only [va_up, upd, e, if_false]; exact h2 i (by omega)
  · by_cases e : i = t
    · subst e
      rw [List.getElem?_append_right (by omega), h1, Nat.add_sub_cancel_left]
      simp
    · rw [List.getElem?_append_left (by omega), h3 i (by omega) n hn]
      simp only [e, if_false]
theorem ks_i44 : ∀ w ∈ wsX40, w ∈ wsX4_init := by decide +kernel
theorem ks_i43 : ∀ w ∈ wsX30, w ∈ wsX4_init := by decide +kernel
theorem ks_i42 : ∀ w ∈ wsX20, w ∈ wsX4_init := by decide +kernel
set_option maxHeartbeats 4000000 in
set_option maxRecDepth 100000 in
theorem ks_loopT {p : Program} {l : Launch} {e : Env} {s : State} {m : MethodId} {args : Array Value} {below : List Frame} {meth : Method} {c : Code} {D : va_G} {cy : Nat → ClassId} {A : Nat → Prop} {Q : State → Prop} {h0 qt qw ql qg : Nat} {r : Nat → Nat} {qc qd : Nat} (hx : p.tables.exec = Jvm.exec) (hb : c.code = cX4_init) (hml : c.maxLocals = 2) (hown : s.vm.findClass RX4 = some m.cls) (hts : ∀ w ∈ wsX4_init, w.before args s = true) (hK : va_K D vwCl (ks_t cy) s) (hN : ks_K s) (hA : ∀ q : Nat, s.heap.size ≤ q → A q) {g : Nat → Option Nat} {lf cf df : Nat → Int32}
    (kk : ∀ (f : Nat → Option Nat) (tk : Nat → Nat) (U : Nat → Nat → Nat) (mk : va_W) (H : Heap) (locs : List Loc) (ls : Array Slot), ks_It cy 16 f tk U mk → va_P D vwCl (ks_b cy h0 qt qw ql qg r qc qd f g lf cf df ++ mk) H → va_D A (ks_b cy h0 qt qw ql qg r qc qd f g lf cf df ++ mk) → va_S A s.heap H locs → lv_has ls 2 [(1, .int (nI 16)), (0, .ref h0)] → W p l e (ks_Rm 3 170 1340 53) s m args below meth c H locs 154 1292 Q (F0 m 82 ls [])) :
    ∀ (n t : Nat), t + n = 16 → ∀ (f : Nat → Option Nat) (tk : Nat → Nat) (U : Nat → Nat → Nat) (mk : va_W) (H : Heap) (locs : List Loc) (ls : Array Slot), ks_It cy t f tk U mk → va_P D vwCl (ks_b cy h0 qt qw ql qg r qc qd f g lf cf df ++ mk) H → va_D A (ks_b cy h0 qt qw ql qg r qc qd f g lf cf df ++ mk) → va_S A s.heap H locs → lv_has ls 2 [(1, .int (nI t)), (0, .ref h0)] → W p l e (ks_Rm 3 170 1340 53) s m args below meth c H locs (10 + 9 * t) (76 + 76 * t) Q (F0 m 57 ls []) := by
  intro n
  induction n with
  | zero =>
    intro t ht f tk U mk H locs ls hI hP hD hS hl
    have ht : t = 16 := by omega
    subst ht
    refine lv_iload_n hx hb dX4_init_57 rfl (lv_at hl 0 rfl) ?_
    refine lv_bipush (v := 16) hx hb dX4_init_58 (by decide) ?_
    refine lv_icmp_ge (tgt := 82) hx hb dX4_init_60 (by decide) (fun _ => ?_) (fun c9 => absurd (by decide) c9)
    exact kk f tk U mk H locs ls hI hP hD hS hl
  | succ n ih =>
    intro t ht f tk U mk H locs ls hI hP hD hS hl
    have hlt : t < 16 := by omega
    refine lv_iload_n hx hb dX4_init_57 rfl (lv_at hl 0 rfl) ?_
    refine lv_bipush (v := 16) hx hb dX4_init_58 (by decide) ?_
    refine lv_icmp_ge (tgt := 82) hx hb dX4_init_60 (by decide) (fun c9 => absurd c9 (nI_ge (a := t) (b := 16) hlt (by decide))) (fun _ => ?_)
    refine lv_aload_n hx hb dX4_init_63 rfl (lv_at hl 1 rfl) ?_
    refine va_get (D := D) (ci := 4) (v := .ref qt) (C := RX4) (T := TX4) (N := 8) hx hb hts ks_i44 hown hK hP 0 rfl rfl 0 (by decide) (hts (.fieldLink RX4 11 "SpinKernel" "tasks" "[LSpinKernel$Task;") (by decide +kernel)) (fun _ h => h) rfl dX4_init_64 ?_
    refine lv_iload_n hx hb dX4_init_67 rfl (lv_at hl 0 rfl) ?_
    refine va_new (ci := 3) (fs := [.int 0, .int 0, .int 0, .int 0, .int 0, .int 0, .int 0, .int 0, .null, .null]) (C := RX3) (T := TX3) (N := 10) hx hb hts ks_i43 tyX3 tyX3_ok hown (hts (.classLink RX4 9 RX3) (by decide +kernel)) (hts (.instantiable RX3 10) (by decide +kernel)) (hts (.initialized RX3) (by decide +kernel)) hK hP hD hS hA rfl (fun j hj => by rcases (show j = 0 ∨ j = 1 ∨ j = 2 ∨ j = 3 ∨ j = 4 ∨ j = 5 ∨ j = 6 ∨ j = 7 ∨ j = 8 ∨ j = 9 by omega) with rfl | rfl | rfl | rfl | rfl | rfl | rfl | rfl | rfl | rfl <;> rfl) (show 10 + 9 * t + 1 ≤ 170 by omega) (show 76 + 76 * t + 10 ≤ 1340 by omega) dX4_init_68 (fun q H hP hD hS => ?_)
    refine lv_dup hx hb dX4_init_71 rfl ?_
    have hPc := ks_lastP hP
    have hFc := ks_freeL hD hS hA
    refine va_callv (va_runI (As := []) (rest := [.ref q, .int (nI t), .ref qt]) ⟨hx, hb, hml, hown, hts⟩ (c_X3_init l D cy q H.size) (cwI 0 hts gX4_init_X3_init rfl rfl rfl (hts (.initialized RX3) (by decide +kernel)) (hts (.methodLink RX4 36 yX3_init) (by decide +kernel)) (hts (.instanceMethod yX3_init) (by decide +kernel)) rfl (by decide +kernel) ⟨(Nat.le_of_ble_eq_true rfl), (Nat.le_of_ble_eq_true rfl)⟩) ⟨ks_c0P.blind, fun U hU hW => ⟨rfl, by rw [hU], by rw [hU]; exact hPc, va_K.moved hW.alike hK, ks_oneD _, hN.warm hW⟩⟩ rfl rfl hl.1 rfl (lv_room (Nat.le_of_ble_eq_true rfl)) dX4_init_72 ⟨show 10 + 9 * t + 1 + 8 ≤ 170 by omega, show 76 + 76 * t + 10 + 66 ≤ 1340 by omega⟩) hS (fun q _ h => hFc q h) hFc (fun u t9 H1 locs ht9 hvm hw hB hz1 hk1 hS => ?_)
    obtain ⟨hP1, hD1⟩ := hB
    rw [ht9] at hP1
    obtain ⟨hP, hD⟩ := ks_joinL hP hD hk1 hFc hP1 hD1
    refine va_astq hx hb hK hP hD hS 1 3 (ks_b cy h0 qt qw ql qg r qc qd f g lf cf df ++ mk).length 3 (r := (RX3, TX3, 10)) rfl rfl (by rw [List.getElem?_append_right (Nat.le_refl _), Nat.sub_self]; rfl) rfl (vp_in_nI hlt (by decide)) dX4_init_75 (fun H locs hP hD hS => ?_)
    rw [nI_clamp (n := t) (by omega)] at hP hD
    have hP : va_P D vwCl ((ks_b cy h0 qt qw ql qg r qc qd (va_up f t (some q)) g lf cf df ++ mk) ++ ks_tk cy q u) H := hP
    have hD : va_D A ((ks_b cy h0 qt qw ql qg r qc qd (va_up f t (some q)) g lf cf df ++ mk) ++ ks_tk cy q u) := hD
    rw [List.append_assoc] at hP hD
    refine lv_iinc (v := nI (t + 1)) (lv' := [(1, .int (nI (t + 1))), (0, .ref h0)]) hx hb dX4_init_76 hl (k := 0) rfl (by rw [nI_succ]; rfl) (by decide) rfl (fun ls hl => ?_)
    refine lv_goto (tgt := 57) hx hb dX4_init_79 (by decide) ?_
    refine W.widen (k := 10 + 9 * (t + 1)) (n := 76 + 76 * (t + 1)) (by omega) (by omega) ?_
    exact ih (t + 1) (by omega) _ _ _ _ _ _ _ (hI.more q u) hP hD hS hl
set_option maxHeartbeats 4000000 in
set_option maxRecDepth 100000 in
theorem ks_loopR {p : Program} {l : Launch} {e : Env} {s : State} {m : MethodId} {args : Array Value} {below : List Frame} {meth : Method} {c : Code} {D : va_G} {cy : Nat → ClassId} {A : Nat → Prop} {Q : State → Prop} {h0 qt qw ql qg : Nat} {r : Nat → Nat} {qc qd : Nat} (hx : p.tables.exec = Jvm.exec) (hb : c.code = cX4_init) (hml : c.maxLocals = 2) (hown : s.vm.findClass RX4 = some m.cls) (hts : ∀ w ∈ wsX4_init, w.before args s = true) (hK : va_K D vwCl (ks_t cy) s) (hN : ks_K s) (hA : ∀ q : Nat, s.heap.size ≤ q → A q) {f : Nat → Option Nat} {cf df : Nat → Int32} {mt : va_W}
    (kk : ∀ (g : Nat → Option Nat) (lf : Nat → Int32) (rk V : Nat → Nat) (mk : va_W) (H : Heap) (locs : List Loc) (ls : Array Slot), ks_Ir cy 8 g lf rk V mk → va_P D vwCl ((ks_b cy h0 qt qw ql qg r qc qd f g lf cf df ++ mt) ++ mk) H → va_D A ((ks_b cy h0 qt qw ql qg r qc qd f g lf cf df ++ mt) ++ mk) → va_S A s.heap H locs → lv_has ls 2 [(1, .int (nI 8)), (0, .ref h0)] → W p l e (ks_Rm 3 170 1340 53) s m args below meth c H locs 170 1340 Q (F0 m 116 ls [])) :
    ∀ (n t : Nat), t + n = 8 → ∀ (g : Nat → Option Nat) (lf : Nat → Int32) (rk V : Nat → Nat) (mk : va_W) (H : Heap) (locs : List Loc) (ls : Array Slot), ks_Ir cy t g lf rk V mk → va_P D vwCl ((ks_b cy h0 qt qw ql qg r qc qd f g lf cf df ++ mt) ++ mk) H → va_D A ((ks_b cy h0 qt qw ql qg r qc qd f g lf cf df ++ mt) ++ mk) → va_S A s.heap H locs → lv_has ls 2 [(1, .int (nI t)), (0, .ref h0)] → W p l e (ks_Rm 3 170 1340 53) s m args below meth c H locs (154 + 2 * t) (1292 + 6 * t) Q (F0 m 84 ls []) := by
  intro n
  induction n with
  | zero =>
    intro t ht g lf rk V mk H locs ls hI hP hD hS hl
    have ht : t = 8 := by omega
    subst ht
    refine lv_iload_n hx hb dX4_init_84 rfl (lv_at hl 0 rfl) ?_
    refine lv_bipush (v := 8) hx hb dX4_init_85 (by decide) ?_
    refine lv_icmp_ge (tgt := 116) hx hb dX4_init_87 (by decide) (fun _ => ?_) (fun c9 => absurd (by decide) c9)
    exact kk g lf rk V mk H locs ls hI hP hD hS hl
  | succ n ih =>
    intro t ht g lf rk V mk H locs ls hI hP hD hS hl
    have hlt : t < 8 := by omega
    refine lv_iload_n hx hb dX4_init_84 rfl (lv_at hl 0 rfl) ?_
    refine lv_bipush (v := 8) hx hb dX4_init_85 (by decide) ?_
    refine lv_icmp_ge (tgt := 116) hx hb dX4_init_87 (by decide) (fun c9 => absurd c9 (nI_ge (a := t) (b := 8) hlt (by decide))) (fun _ => ?_)
    refine lv_aload_n hx hb dX4_init_90 rfl (lv_at hl 1 rfl) ?_
    refine va_get (D := D) (ci := 4) (v := .ref qw) (C := RX4) (T := TX4) (N := 8) hx hb hts ks_i44 hown hK hP 0 rfl rfl 1 (by decide) (hts (.fieldLink RX4 17 "SpinKernel" "rows" "[LSpinKernel$Row;") (by decide +kernel)) (fun _ h => h) rfl dX4_init_91 ?_
    refine lv_iload_n hx hb dX4_init_94 rfl (lv_at hl 0 rfl) ?_
    refine va_new (ci := 2) (fs := [.null, .int 0]) (C := RX2) (T := TX2) (N := 2) hx hb hts ks_i42 tyX2 tyX2_ok hown (hts (.classLink RX4 15 RX2) (by decide +kernel)) (hts (.instantiable RX2 2) (by decide +kernel)) (hts (.initialized RX2) (by decide +kernel)) hK hP hD hS hA rfl (fun j hj => by rcases (show j = 0 ∨ j = 1 by omega) with rfl | rfl <;> rfl) (show 154 + 2 * t + 1 ≤ 170 by omega) (show 1292 + 6 * t + 2 ≤ 1340 by omega) dX4_init_95 (fun q H hP hD hS => ?_)
    refine lv_dup hx hb dX4_init_98 rfl ?_
    have hPc := ks_lastP hP
    have hFc := ks_freeL hD hS hA
    refine va_callv (va_runIN (As := []) (rest := [.ref q, .int (nI t), .ref qw]) ⟨hx, hb, hml, hown, hts⟩ (c_X2_init l D cy q H.size) ⟨va_cnB 0 hts gX4_init_X2_init_n37 rfl rfl rfl hN.2.2.1 (hts (.initialized RX2) (by decide +kernel)) (by decide +kernel) ⟨(Nat.le_of_ble_eq_true rfl), (Nat.le_of_ble_eq_true rfl)⟩, rfl, hts (.instanceMethod yX2_init) (by decide +kernel)⟩ ⟨ks_c0P.blind, fun U hU hW => ⟨rfl, by rw [hU], by rw [hU]; exact hPc, va_K.moved hW.alike hK, ks_oneD _, hN.warm hW⟩⟩ rfl rfl hl.1 rfl (lv_room (Nat.le_of_ble_eq_true rfl)) dX4_init_99 ⟨show 154 + 2 * t + 1 + 1 ≤ 170 by omega, show 1292 + 6 * t + 2 + 4 ≤ 1340 by omega⟩) hS (fun q _ h => hFc q h) hFc (fun v t9 H1 locs ht9 hvm hw hB hz1 hk1 hS => ?_)
    obtain ⟨hP1, hD1⟩ := hB
    rw [ht9] at hP1
    obtain ⟨hP, hD⟩ := ks_joinL hP hD hk1 hFc hP1 hD1
    refine va_astq hx hb hK hP hD hS 2 4 ((ks_b cy h0 qt qw ql qg r qc qd f g lf cf df ++ mt) ++ mk).length 2 (r := (RX2, TX2, 2)) rfl rfl (by rw [List.getElem?_append_right (Nat.le_refl _), Nat.sub_self]; rfl) rfl (vp_in_nI hlt (by decide)) dX4_init_102 (fun H locs hP hD hS => ?_)
    rw [nI_clamp (n := t) (by omega)] at hP hD
    have hP : va_P D vwCl (((ks_b cy h0 qt qw ql qg r qc qd f (va_up g t (some q)) lf cf df ++ mt) ++ mk) ++ ks_rw cy q v) H := hP
    have hD : va_D A (((ks_b cy h0 qt qw ql qg r qc qd f (va_up g t (some q)) lf cf df ++ mt) ++ mk) ++ ks_rw cy q v) := hD
    refine lv_aload_n hx hb dX4_init_103 rfl (lv_at hl 1 rfl) ?_
    refine va_get (D := D) (ci := 4) (v := .ref ql) (C := RX4) (T := TX4) (N := 8) hx hb hts ks_i44 hown hK hP 0 rfl rfl 2 (by decide) (hts (.fieldLink RX4 21 "SpinKernel" "leastOfGroup" "[I") (by decide +kernel)) (fun _ h => h) rfl dX4_init_104 ?_
    refine lv_iload_n hx hb dX4_init_107 rfl (lv_at hl 0 rfl) ?_
    refine lv_iload_n hx hb dX4_init_108 rfl (lv_at hl 0 rfl) ?_
    refine va_iast hx hb hK hP hD hS 3 0 rfl rfl (vp_in_nI hlt (by decide)) dX4_init_109 (fun H locs hP hD hS => ?_)
    rw [nI_clamp (n := t) (by omega)] at hP hD
    have hP : va_P D vwCl (((ks_b cy h0 qt qw ql qg r qc qd f (va_up g t (some q)) (upd lf t (nI t)) cf df ++ mt) ++ mk) ++ ks_rw cy q v) H := hP
    have hD : va_D A (((ks_b cy h0 qt qw ql qg r qc qd f (va_up g t (some q)) (upd lf t (nI t)) cf df ++ mt) ++ mk) ++ ks_rw cy q v) := hD
    rw [List.append_assoc _ mk] at hP hD
    refine lv_iinc (v := nI (t + 1)) (lv' := [(1, .int (nI (t + 1))), (0, .ref h0)]) hx hb dX4_init_110 hl (k := 0) rfl (by rw [nI_succ]; rfl) (by decide) rfl (fun ls hl => ?_)
    refine lv_goto (tgt := 84) hx hb dX4_init_113 (by decide) ?_
    refine W.widen (k := 154 + 2 * (t + 1)) (n := 1292 + 6 * (t + 1)) (by omega) (by omega) ?_
    exact ih (t + 1) (by omega) _ _ _ _ _ _ _ _ (hI.more q v) hP hD hS hl
