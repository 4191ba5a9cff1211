/-! SpinKernel.blockingOf(LSpinKernel$Task;)I -/
def f_X4_blockingOf_14 (N : Nat) : Nat → ks_S → Nat → Int32 → Int32 → Int32 → Option (Int32 × ks_S)
  | 0, _, _, _, _, _ => none
  | n + 1, σ, a1, x2, x4, x5 => (if x4 ≤ x5 then some (x2, σ) else (if ks_in x5 16 = true then ((f_X3_isOn σ ((x5.toNatClampNeg)) ((σ 8 a1 0 1))).bind fun (r5, s4) => (if r5 = 0 then f_X4_blockingOf_14 N n s4 a1 x2 x4 ((x5 + 1)) else (if ((s4 8 a1 0 2)) ≤ ((s4 8 ((x5.toNatClampNeg)) 0 2)) then f_X4_blockingOf_14 N n s4 a1 x2 x4 ((x5 + 1)) else ((f_X3_longestStay N s4 ((x5.toNatClampNeg))).bind fun (r10, s9) => f_X4_blockingOf_14 N n s9 a1 ((if x2 < ((r10 - 1)) then ((r10 - 1)) else x2)) x4 ((x5 + 1)))))) else none))
def f_X4_blockingOf (N : Nat) (σ : ks_S) (a1 : Nat) : Option (Int32 × ks_S) :=
  f_X4_blockingOf_14 N N σ a1 0 16 0
theorem in_X4_blockingOf_3 : ∀ w ∈ wsX30, w ∈ wsX4_blockingOf := by decide +kernel
theorem in_X4_blockingOf_4 : ∀ w ∈ wsX40, w ∈ wsX4_blockingOf := by decide +kernel
set_option maxHeartbeats 4000000 in
set_option maxRecDepth 100000 in
theorem t_X4_blockingOf_14 {p : Program} {l : Launch} {e : Env} {s : State} {m : MethodId} {args : Array Value} {below : List Frame} {meth : Method} {c : Code} {D : va_G} {cy : Nat → ClassId} {ad : ks_A} {En : Nat → Prop} {n0 : Nat → Prop} {σ0 : ks_S} {o : Int64} {N : Nat} {out : (Int32 × ks_S)} (C : ks_M p s m args meth c D cy ad En (fun k => ks_g k = 0) n0 σ0 o wsX4_blockingOf cX4_blockingOf RX4 7 (some .int)) : ∀ (n : Nat) (σ : ks_S) (a1 : Nat) (x2 : Int32) (x4 : Int32) (x5 : Int32), ks_v En 8 a1 0 → f_X4_blockingOf_14 N n σ a1 x2 x4 x5 = some out → ∀ {H : Heap} {locs : List Loc} {ls : Array Slot}, ks_W D cy ad En σ o H → va_S (ks_F n0) s.heap H locs → lv_has ls 7 [(1, .ref (ad 8 a1 0)), (2, .int x2), (3, .ref (ad 1 0 0)), (4, .int x4), (5, .int x5)] → W p l e (ks_Rm 2 0 0 42) s m args below meth c H locs 0 0 (MQ below (ks_Qi D cy ad En n0 o out) args s 0 0 (ks_F n0)) (F0 m 14 ls []) := by
  obtain ⟨hx, hb, hml, hr, hown, hts, hlocks, hG, hU0, hE⟩ := id C
  have hK := hU0.2.2
  intro n
  induction n with
  | zero => intro σ a1 x2 x4 x5; intro v1 hf; exact absurd hf (by simp [f_X4_blockingOf_14])
  | succ n hk14 =>
    intro σ a1 x2 x4 x5 v1 hf H locs ls hW hS hl
    rw [f_X4_blockingOf_14] at hf
    refine lv_iload hx hb dX4_blockingOf_14 (lv_at hl 4 rfl) ?_
    refine lv_iload hx hb dX4_blockingOf_16 (lv_at hl 3 rfl) ?_
    refine lv_icmp_ge (tgt := 69) hx hb dX4_blockingOf_18 (by decide) (fun c1 => ?_) (fun c1 => ?_)
    · rw [if_pos c1] at hf
      refine lv_iload_n hx hb dX4_blockingOf_69 rfl (lv_at hl 1 rfl) ?_
      exact ks_iret C hf hW hS dX4_blockingOf_70
    · rw [if_neg c1] at hf
      refine lv_aload_n hx hb dX4_blockingOf_21 rfl (lv_at hl 2 rfl) ?_
      refine lv_iload hx hb dX4_blockingOf_22 (lv_at hl 4 rfl) ?_
      obtain ⟨hi2, hf⟩ := ks_guard hf
      refine ks_aald hx hb hK hW (ks_v1 (i := 0) (j := 0) (hE 1 rfl)) 3 (ks_c1 cy ad o 0 0 _) rfl rfl hi2 dX4_blockingOf_24 ?_
      refine lv_astore (lv' := [(6, .ref (ad 8 (x5.toNatClampNeg) 0)), (1, .ref (ad 8 a1 0)), (2, .int x2), (3, .ref (ad 1 0 0)), (4, .int x4), (5, .int x5)]) hx hb dX4_blockingOf_25 hl (by decide) rfl (fun ls hl => ?_)
      refine lv_aload hx hb dX4_blockingOf_27 (lv_at hl 0 rfl) ?_
      refine lv_aload_n hx hb dX4_blockingOf_29 rfl (lv_at hl 1 rfl) ?_
      refine va_get (D := D) (ci := 3) (v := .int (σ 8 a1 0 1)) (C := RX3) (T := TX3) (N := 10) hx hb hts in_X4_blockingOf_3 hown hK (ks_P1 hW v1 (ks_c8 cy ad o a1 0 _)) 0 rfl rfl 1 (by decide) (hts (.fieldLink RX4 230 "SpinKernel$Task" "core" "I") (by decide +kernel)) (fun _ h => h) rfl dX4_blockingOf_30 ?_
      obtain ⟨⟨r5, s4⟩, hc3, hf⟩ := ks_bind hf
      try dsimp only at hf
      refine ks_calli (va_runV (As := [.int (σ 8 a1 0 1)]) (rest := []) ⟨hx, hb, hml, hown, hts⟩ (m_X3_isOn l D cy ad En n0 hG hE o (ks_v8 (j := 0) (ks_in_lt hi2) (hE 8 rfl)) hc3) (cwV 1 hts gX4_blockingOf_X3_isOn rfl rfl rfl (by decide +kernel) ⟨(Nat.le_of_ble_eq_true rfl), (Nat.le_of_ble_eq_true rfl)⟩) ⟨ks_U.blind, ks_recv hK hW (ks_v8 (j := 0) (ks_in_lt hi2) (hE 8 rfl)) (ks_c8 cy ad o (x5.toNatClampNeg) 0 _) rfl, fun U hU hWm => ⟨rfl, hU0.now hS hW hWm.alike hU⟩⟩ rfl rfl hl.1 rfl (lv_room (Nat.le_of_ble_eq_true rfl)) dX4_blockingOf_33 ⟨(Nat.le_of_ble_eq_true rfl), (Nat.le_of_ble_eq_true rfl)⟩) hS (fun H locs hW hS => ?_)
      refine lv_if_eq (tgt := 63) hx hb dX4_blockingOf_36 (by decide) (fun c6 => ?_) (fun c6 => ?_)
      · rw [if_pos c6] at hf
        refine lv_iinc (v := (x5 + 1)) (lv' := [(5, .int (x5 + 1)), (6, .ref (ad 8 (x5.toNatClampNeg) 0)), (1, .ref (ad 8 a1 0)), (2, .int x2), (3, .ref (ad 1 0 0)), (4, .int x4)]) hx hb dX4_blockingOf_63 hl (k := 5) rfl rfl (by decide) rfl (fun ls hl => ?_)
        refine lv_goto (tgt := 14) hx hb dX4_blockingOf_66 (by decide) ?_
        exact hk14 _ _ _ _ _ v1 hf hW hS (lv_sub hl [2, 3, 4, 5, 0] rfl)
      · rw [if_neg c6] at hf
        refine lv_aload hx hb dX4_blockingOf_39 (lv_at hl 0 rfl) ?_
        refine va_get (D := D) (ci := 3) (v := .int (s4 8 ((x5.toNatClampNeg)) 0 2)) (C := RX3) (T := TX3) (N := 10) hx hb hts in_X4_blockingOf_3 hown hK (ks_P1 hW (ks_v8 (j := 0) (ks_in_lt hi2) (hE 8 rfl)) (ks_c8 cy ad o (x5.toNatClampNeg) 0 _)) 0 rfl rfl 2 (by decide) (hts (.fieldLink RX4 207 "SpinKernel$Task" "priority" "I") (by decide +kernel)) (fun _ h => h) rfl dX4_blockingOf_41 ?_
        refine lv_aload_n hx hb dX4_blockingOf_44 rfl (lv_at hl 1 rfl) ?_
        refine va_get (D := D) (ci := 3) (v := .int (s4 8 a1 0 2)) (C := RX3) (T := TX3) (N := 10) hx hb hts in_X4_blockingOf_3 hown hK (ks_P1 hW v1 (ks_c8 cy ad o a1 0 _)) 0 rfl rfl 2 (by decide) (hts (.fieldLink RX4 207 "SpinKernel$Task" "priority" "I") (by decide +kernel)) (fun _ h => h) rfl dX4_blockingOf_45 ?_
        refine lv_icmp_ge (tgt := 63) hx hb dX4_blockingOf_48 (by decide) (fun c7 => ?_) (fun c7 => ?_)
        · rw [if_pos c7] at hf
          refine lv_iinc (v := (x5 + 1)) (lv' := [(5, .int (x5 + 1)), (6, .ref (ad 8 (x5.toNatClampNeg) 0)), (1, .ref (ad 8 a1 0)), (2, .int x2), (3, .ref (ad 1 0 0)), (4, .int x4)]) hx hb dX4_blockingOf_63 hl (k := 5) rfl rfl (by decide) rfl (fun ls hl => ?_)
          refine lv_goto (tgt := 14) hx hb dX4_blockingOf_66 (by decide) ?_
          exact hk14 _ _ _ _ _ v1 hf hW hS (lv_sub hl [2, 3, 4, 5, 0] rfl)
        · rw [if_neg c7] at hf
          refine lv_iload_n hx hb dX4_blockingOf_51 rfl (lv_at hl 2 rfl) ?_
          refine lv_aload hx hb dX4_blockingOf_52 (lv_at hl 0 rfl) ?_
          obtain ⟨⟨r10, s9⟩, hc8, hf⟩ := ks_bind hf
          try dsimp only at hf
          refine ks_calli (va_runV (As := []) (rest := [.int x2]) ⟨hx, hb, hml, hown, hts⟩ (m_X3_longestStay l D cy ad En n0 hG hE o (ks_v8 (j := 0) (ks_in_lt hi2) (hE 8 rfl)) hc8) (cwV 0 hts gX4_blockingOf_X3_longestStay rfl rfl rfl (by decide +kernel) ⟨(Nat.le_of_ble_eq_true rfl), (Nat.le_of_ble_eq_true rfl)⟩) ⟨ks_U.blind, ks_recv hK hW (ks_v8 (j := 0) (ks_in_lt hi2) (hE 8 rfl)) (ks_c8 cy ad o (x5.toNatClampNeg) 0 _) rfl, fun U hU hWm => ⟨rfl, hU0.now hS hW hWm.alike hU⟩⟩ rfl rfl hl.1 rfl (lv_room (Nat.le_of_ble_eq_true rfl)) dX4_blockingOf_54 ⟨(Nat.le_of_ble_eq_true rfl), (Nat.le_of_ble_eq_true rfl)⟩) hS (fun H locs hW hS => ?_)
          refine lv_iconst (v := 1) hx hb dX4_blockingOf_57 (by decide) ?_
          refine lv_isub hx hb dX4_blockingOf_58 ?_
          refine va_mmax hx hb (hml.trans hl.1.symm) hown (hts (.methodLink RX4 164 Lib.Math.max.name) (by decide +kernel)) (hts (.static Lib.Math.max.name) (by decide +kernel)) (hts (.initialized "java/lang/Math") (by decide +kernel)) (hts (.code Lib.Math.max.name Lib.Math.max.code 2 (some .int)) (by decide +kernel)) (Nat.le_of_ble_eq_true rfl) (Nat.le_of_ble_eq_true rfl) (Nat.le_of_ble_eq_true rfl) (Nat.le_of_ble_eq_true rfl) dX4_blockingOf_59 ?_
          refine lv_istore_n (lv' := [(2, .int (if x2 < ((r10 - 1)) then ((r10 - 1)) else x2)), (6, .ref (ad 8 (x5.toNatClampNeg) 0)), (1, .ref (ad 8 a1 0)), (3, .ref (ad 1 0 0)), (4, .int x4), (5, .int x5)]) hx hb dX4_blockingOf_62 rfl hl (by decide) rfl (fun ls hl => ?_)
          refine lv_iinc (v := (x5 + 1)) (lv' := [(5, .int (x5 + 1)), (2, .int (if x2 < ((r10 - 1)) then ((r10 - 1)) else x2)), (6, .ref (ad 8 (x5.toNatClampNeg) 0)), (1, .ref (ad 8 a1 0)), (3, .ref (ad 1 0 0)), (4, .int x4)]) hx hb dX4_blockingOf_63 hl (k := 5) rfl rfl (by decide) rfl (fun ls hl => ?_)
          refine lv_goto (tgt := 14) hx hb dX4_blockingOf_66 (by decide) ?_
          exact hk14 _ _ _ _ _ v1 hf hW hS (lv_sub hl [3, 1, 4, 5, 0] rfl)
set_option maxHeartbeats 4000000 in
set_option maxRecDepth 100000 in
theorem t_X4_blockingOf {p : Program} {l : Launch} {e : Env} {s : State} {m : MethodId} {args : Array Value} {below : List Frame} {meth : Method} {c : Code} {D : va_G} {cy : Nat → ClassId} {ad : ks_A} {En : Nat → Prop} {n0 : Nat → Prop} {σ0 : ks_S} {o : Int64} {N : Nat} {out : (Int32 × ks_S)} (C : ks_M p s m args meth c D cy ad En (fun k => ks_g k = 0) n0 σ0 o wsX4_blockingOf cX4_blockingOf RX4 7 (some .int)) {σ : ks_S} {a1 : Nat} (v1 : ks_v En 8 a1 0) (hf : f_X4_blockingOf N σ a1 = some out) {H : Heap} {locs : List Loc} {ls : Array Slot} (hW : ks_W D cy ad En σ o H) (hS : va_S (ks_F n0) s.heap H locs) (hl : lv_has ls 7 [(0, .ref (ad 0 0 0)), (1, .ref (ad 8 a1 0))]) : W p l e (ks_Rm 2 0 0 42) s m args below meth c H locs 0 0 (MQ below (ks_Qi D cy ad En n0 o out) args s 0 0 (ks_F n0)) (F0 m 0 ls []) := by
  obtain ⟨hx, hb, hml, hr, hown, hts, hlocks, hG, hU0, hE⟩ := id C
  have hK := hU0.2.2
  unfold f_X4_blockingOf at hf
  refine lv_iconst (v := 0) hx hb dX4_blockingOf_0 (by decide) ?_
  refine lv_istore_n (lv' := [(2, .int 0), (0, .ref (ad 0 0 0)), (1, .ref (ad 8 a1 0))]) hx hb dX4_blockingOf_1 rfl hl (by decide) rfl (fun ls hl => ?_)
  refine lv_aload_n hx hb dX4_blockingOf_2 rfl (lv_at hl 1 rfl) ?_
  refine va_get (D := D) (ci := 4) (v := .ref (ad 1 0 0)) (C := RX4) (T := TX4) (N := 8) hx hb hts in_X4_blockingOf_4 hown hK (ks_P1 hW (ks_v0 (i := 0) (j := 0) (hE 0 rfl)) (ks_c0 cy ad o 0 0 _)) 0 rfl rfl 0 (by decide) (hts (.fieldLink RX4 11 "SpinKernel" "tasks" "[LSpinKernel$Task;") (by decide +kernel)) (fun _ h => h) rfl dX4_blockingOf_3 ?_
  refine lv_astore_n (lv' := [(3, .ref (ad 1 0 0)), (2, .int 0), (0, .ref (ad 0 0 0)), (1, .ref (ad 8 a1 0))]) hx hb dX4_blockingOf_6 rfl hl (by decide) rfl (fun ls hl => ?_)
  refine lv_aload_n hx hb dX4_blockingOf_7 rfl (lv_at hl 0 rfl) ?_
  refine ks_alen hx hb hK hW (ks_v1 (i := 0) (j := 0) (hE 1 rfl)) 3 (ks_c1 cy ad o 0 0 _) rfl (v := 16) rfl dX4_blockingOf_8 ?_
  refine lv_istore (lv' := [(4, .int 16), (3, .ref (ad 1 0 0)), (2, .int 0), (0, .ref (ad 0 0 0)), (1, .ref (ad 8 a1 0))]) hx hb dX4_blockingOf_9 hl (by decide) rfl (fun ls hl => ?_)
  refine lv_iconst (v := 0) hx hb dX4_blockingOf_11 (by decide) ?_
  refine lv_istore (lv' := [(5, .int 0), (4, .int 16), (3, .ref (ad 1 0 0)), (2, .int 0), (0, .ref (ad 0 0 0)), (1, .ref (ad 8 a1 0))]) hx hb dX4_blockingOf_12 hl (by decide) rfl (fun ls hl => ?_)
  exact t_X4_blockingOf_14 C _ _ _ _ _ _ v1 hf hW hS (lv_sub hl [5, 3, 2, 1, 0] rfl)
set_option maxHeartbeats 4000000 in
set_option maxRecDepth 100000 in
theorem m_X4_blockingOf (l : Launch) (D : va_G) (cy : Nat → ClassId) (ad : ks_A) (En : Nat → Prop) (n0 : Nat → Prop) (hG : ks_G ad En n0) (hE : ∀ k, ks_g k = 0 → En k) (o : Int64) {N : Nat} {σ : ks_S} {a1 : Nat} (v1 : ks_v En 8 a1 0) {out : (Int32 × ks_S)} (hf : f_X4_blockingOf N σ a1 = some out) : Met l yX4_blockingOf wsX4_blockingOf (ks_Rm 2 0 0 42) (va_Pc [.ref (ad 0 0 0), .ref (ad 8 a1 0)] (ks_U D cy ad En n0 σ o)) (ks_Qi D cy ad En n0 o out) 0 0 (ks_F n0) := by
  refine Met.ofW (cc := cX4_blockingOf) (maxL := 7) (ret := some .int) (by decide) rfl ?_
  intro p e s m args below meth c s₁ B hml hv
  obtain ⟨rfl, hU⟩ := hv
  have hl := lv_entry ([.ref (ad 0 0 0), .ref (ad 8 a1 0)]) (n := 7) (Nat.le_of_ble_eq_true rfl)
  rw [lg_entry_eq]
  generalize (lg_sl ([.ref (ad 0 0 0), .ref (ad 8 a1 0)]) ++ List.replicate (7 - (lg_sl ([.ref (ad 0 0 0), .ref (ad 8 a1 0)])).length) Slot.unset).toArray = ls at hl ⊢
  exact t_X4_blockingOf ⟨B.exec, B.bytes, hml, B.returns, findClass_of_methodNamed B.named, atoms_spec (ws := wsX4_blockingOf) B.pre, B.notSynchronized, hG, hU, hE⟩ v1 hf hU.2.1 va_S.rf hl

/-! SpinKernel.demandAbove(LSpinKernel$Task;I)I -/
def f_X4_demandAbove_16 (N : Nat) : Nat → ks_S → Nat → Int32 → Int32 → Int32 → Int32 → Option (Int32 × ks_S)
  | 0, _, _, _, _, _, _ => none
  | n + 1, σ, a1, x2, x3, x5, x6 => (if x5 ≤ x6 then some (x3, σ) else (if ks_in x6 16 = true then ((f_X3_isOn σ ((x6.toNatClampNeg)) ((σ 8 a1 0 1))).bind fun (r5, s4) => (if r5 = 0 then f_X4_demandAbove_16 N n s4 a1 x2 x3 x5 ((x6 + 1)) else (if ((s4 8 ((x6.toNatClampNeg)) 0 2)) ≤ ((s4 8 a1 0 2)) then f_X4_demandAbove_16 N n s4 a1 x2 x3 x5 ((x6 + 1)) else ((f_X3_beginningsIn s4 ((x6.toNatClampNeg)) x2).bind fun (r10, s9) => f_X4_demandAbove_16 N n s9 a1 x2 ((x3 + ((((s4 8 ((x6.toNatClampNeg)) 0 6)) * r10)))) x5 ((x6 + 1)))))) else none))
def f_X4_demandAbove (N : Nat) (σ : ks_S) (a1 : Nat) (x2 : Int32) : Option (Int32 × ks_S) :=
  f_X4_demandAbove_16 N N σ a1 x2 0 16 0
theorem in_X4_demandAbove_3 : ∀ w ∈ wsX30, w ∈ wsX4_demandAbove := by decide +kernel
theorem in_X4_demandAbove_4 : ∀ w ∈ wsX40, w ∈ wsX4_demandAbove := by decide +kernel
set_option maxHeartbeats 4000000 in
set_option maxRecDepth 100000 in
theorem t_X4_demandAbove_16 {p : Program} {l : Launch} {e : Env} {s : State} {m : MethodId} {args : Array Value} {below : List Frame} {meth : Method} {c : Code} {D : va_G} {cy : Nat → ClassId} {ad : ks_A} {En : Nat → Prop} {n0 : Nat → Prop} {σ0 : ks_S} {o : Int64} {N : Nat} {out : (Int32 × ks_S)} (C : ks_M p s m args meth c D cy ad En (fun k => ks_g k = 0) n0 σ0 o wsX4_demandAbove cX4_demandAbove RX4 8 (some .int)) : ∀ (n : Nat) (σ : ks_S) (a1 : Nat) (x2 : Int32) (x3 : Int32) (x5 : Int32) (x6 : Int32), ks_v En 8 a1 0 → f_X4_demandAbove_16 N n σ a1 x2 x3 x5 x6 = some out → ∀ {H : Heap} {locs : List Loc} {ls : Array Slot}, ks_W D cy ad En σ o H → va_S (ks_F n0) s.heap H locs → lv_has ls 8 [(1, .ref (ad 8 a1 0)), (2, .int x2), (3, .int x3), (4, .ref (ad 1 0 0)), (5, .int x5), (6, .int x6)] → W p l e (ks_Rm 1 0 0 21) s m args below meth c H locs 0 0 (MQ below (ks_Qi D cy ad En n0 o out) args s 0 0 (ks_F n0)) (F0 m 16 ls []) := by
  obtain ⟨hx, hb, hml, hr, hown, hts, hlocks, hG, hU0, hE⟩ := id C
  have hK := hU0.2.2
  intro n
  induction n with
  | zero => intro σ a1 x2 x3 x5 x6; intro v1 hf; exact absurd hf (by simp [f_X4_demandAbove_16])
  | succ n hk16 =>
    intro σ a1 x2 x3 x5 x6 v1 hf H locs ls hW hS hl
    rw [f_X4_demandAbove_16] at hf
    refine lv_iload hx hb dX4_demandAbove_16 (lv_at hl 5 rfl) ?_
    refine lv_iload hx hb dX4_demandAbove_18 (lv_at hl 4 rfl) ?_
    refine lv_icmp_ge (tgt := 75) hx hb dX4_demandAbove_20 (by decide) (fun c1 => ?_) (fun c1 => ?_)
    · rw [if_pos c1] at hf
      refine lv_iload_n hx hb dX4_demandAbove_75 rfl (lv_at hl 2 rfl) ?_
      exact ks_iret C hf hW hS dX4_demandAbove_76
    · rw [if_neg c1] at hf
      refine lv_aload hx hb dX4_demandAbove_23 (lv_at hl 3 rfl) ?_
      refine lv_iload hx hb dX4_demandAbove_25 (lv_at hl 5 rfl) ?_
      obtain ⟨hi2, hf⟩ := ks_guard hf
      refine ks_aald hx hb hK hW (ks_v1 (i := 0) (j := 0) (hE 1 rfl)) 3 (ks_c1 cy ad o 0 0 _) rfl rfl hi2 dX4_demandAbove_27 ?_
      refine lv_astore (lv' := [(7, .ref (ad 8 (x6.toNatClampNeg) 0)), (1, .ref (ad 8 a1 0)), (2, .int x2), (3, .int x3), (4, .ref (ad 1 0 0)), (5, .int x5), (6, .int x6)]) hx hb dX4_demandAbove_28 hl (by decide) rfl (fun ls hl => ?_)
      refine lv_aload hx hb dX4_demandAbove_30 (lv_at hl 0 rfl) ?_
      refine lv_aload_n hx hb dX4_demandAbove_32 rfl (lv_at hl 1 rfl) ?_
      refine va_get (D := D) (ci := 3) (v := .int (σ 8 a1 0 1)) (C := RX3) (T := TX3) (N := 10) hx hb hts in_X4_demandAbove_3 hown hK (ks_P1 hW v1 (ks_c8 cy ad o a1 0 _)) 0 rfl rfl 1 (by decide) (hts (.fieldLink RX4 230 "SpinKernel$Task" "core" "I") (by decide +kernel)) (fun _ h => h) rfl dX4_demandAbove_33 ?_
      obtain ⟨⟨r5, s4⟩, hc3, hf⟩ := ks_bind hf
      try dsimp only at hf
      refine ks_calli (va_runV (As := [.int (σ 8 a1 0 1)]) (rest := []) ⟨hx, hb, hml, hown, hts⟩ (m_X3_isOn l D cy ad En n0 hG hE o (ks_v8 (j := 0) (ks_in_lt hi2) (hE 8 rfl)) hc3) (cwV 1 hts gX4_demandAbove_X3_isOn rfl rfl rfl (by decide +kernel) ⟨(Nat.le_of_ble_eq_true rfl), (Nat.le_of_ble_eq_true rfl)⟩) ⟨ks_U.blind, ks_recv hK hW (ks_v8 (j := 0) (ks_in_lt hi2) (hE 8 rfl)) (ks_c8 cy ad o (x6.toNatClampNeg) 0 _) rfl, fun U hU hWm => ⟨rfl, hU0.now hS hW hWm.alike hU⟩⟩ rfl rfl hl.1 rfl (lv_room (Nat.le_of_ble_eq_true rfl)) dX4_demandAbove_36 ⟨(Nat.le_of_ble_eq_true rfl), (Nat.le_of_ble_eq_true rfl)⟩) hS (fun H locs hW hS => ?_)
      refine lv_if_eq (tgt := 69) hx hb dX4_demandAbove_39 (by decide) (fun c6 => ?_) (fun c6 => ?_)
      · rw [if_pos c6] at hf
        refine lv_iinc (v := (x6 + 1)) (lv' := [(6, .int (x6 + 1)), (7, .ref (ad 8 (x6.toNatClampNeg) 0)), (1, .ref (ad 8 a1 0)), (2, .int x2), (3, .int x3), (4, .ref (ad 1 0 0)), (5, .int x5)]) hx hb dX4_demandAbove_69 hl (k := 6) rfl rfl (by decide) rfl (fun ls hl => ?_)
        refine lv_goto (tgt := 16) hx hb dX4_demandAbove_72 (by decide) ?_
        exact hk16 _ _ _ _ _ _ v1 hf hW hS (lv_sub hl [2, 3, 4, 5, 6, 0] rfl)
      · rw [if_neg c6] at hf
        refine lv_aload hx hb dX4_demandAbove_42 (lv_at hl 0 rfl) ?_
        refine va_get (D := D) (ci := 3) (v := .int (s4 8 ((x6.toNatClampNeg)) 0 2)) (C := RX3) (T := TX3) (N := 10) hx hb hts in_X4_demandAbove_3 hown hK (ks_P1 hW (ks_v8 (j := 0) (ks_in_lt hi2) (hE 8 rfl)) (ks_c8 cy ad o (x6.toNatClampNeg) 0 _)) 0 rfl rfl 2 (by decide) (hts (.fieldLink RX4 207 "SpinKernel$Task" "priority" "I") (by decide +kernel)) (fun _ h => h) rfl dX4_demandAbove_44 ?_
        refine lv_aload_n hx hb dX4_demandAbove_47 rfl (lv_at hl 1 rfl) ?_
        refine va_get (D := D) (ci := 3) (v := .int (s4 8 a1 0 2)) (C := RX3) (T := TX3) (N := 10) hx hb hts in_X4_demandAbove_3 hown hK (ks_P1 hW v1 (ks_c8 cy ad o a1 0 _)) 0 rfl rfl 2 (by decide) (hts (.fieldLink RX4 207 "SpinKernel$Task" "priority" "I") (by decide +kernel)) (fun _ h => h) rfl dX4_demandAbove_48 ?_
        refine lv_icmp_le (tgt := 69) hx hb dX4_demandAbove_51 (by decide) (fun c7 => ?_) (fun c7 => ?_)
        · rw [if_pos c7] at hf
          refine lv_iinc (v := (x6 + 1)) (lv' := [(6, .int (x6 + 1)), (7, .ref (ad 8 (x6.toNatClampNeg) 0)), (1, .ref (ad 8 a1 0)), (2, .int x2), (3, .int x3), (4, .ref (ad 1 0 0)), (5, .int x5)]) hx hb dX4_demandAbove_69 hl (k := 6) rfl rfl (by decide) rfl (fun ls hl => ?_)
          refine lv_goto (tgt := 16) hx hb dX4_demandAbove_72 (by decide) ?_
          exact hk16 _ _ _ _ _ _ v1 hf hW hS (lv_sub hl [2, 3, 4, 5, 6, 0] rfl)
        · rw [if_neg c7] at hf
          refine lv_iload_n hx hb dX4_demandAbove_54 rfl (lv_at hl 3 rfl) ?_
          refine lv_aload hx hb dX4_demandAbove_55 (lv_at hl 0 rfl) ?_
          refine va_get (D := D) (ci := 3) (v := .int (s4 8 ((x6.toNatClampNeg)) 0 6)) (C := RX3) (T := TX3) (N := 10) hx hb hts in_X4_demandAbove_3 hown hK (ks_P1 hW (ks_v8 (j := 0) (ks_in_lt hi2) (hE 8 rfl)) (ks_c8 cy ad o (x6.toNatClampNeg) 0 _)) 0 rfl rfl 6 (by decide) (hts (.fieldLink RX4 99 "SpinKernel$Task" "inflated" "I") (by decide +kernel)) (fun _ h => h) rfl dX4_demandAbove_57 ?_
          refine lv_aload hx hb dX4_demandAbove_60 (lv_at hl 0 rfl) ?_
          refine lv_iload_n hx hb dX4_demandAbove_62 rfl (lv_at hl 2 rfl) ?_
          obtain ⟨⟨r10, s9⟩, hc8, hf⟩ := ks_bind hf
          try dsimp only at hf
          refine ks_calli (va_runV (As := [.int x2]) (rest := [.int (s4 8 ((x6.toNatClampNeg)) 0 6), .int x3]) ⟨hx, hb, hml, hown, hts⟩ (m_X3_beginningsIn l D cy ad En n0 hG hE o (ks_v8 (j := 0) (ks_in_lt hi2) (hE 8 rfl)) hc8) (cwV 1 hts gX4_demandAbove_X3_beginningsIn rfl rfl rfl (by decide +kernel) ⟨(Nat.le_of_ble_eq_true rfl), (Nat.le_of_ble_eq_true rfl)⟩) ⟨ks_U.blind, ks_recv hK hW (ks_v8 (j := 0) (ks_in_lt hi2) (hE 8 rfl)) (ks_c8 cy ad o (x6.toNatClampNeg) 0 _) rfl, fun U hU hWm => ⟨rfl, hU0.now hS hW hWm.alike hU⟩⟩ rfl rfl hl.1 rfl (lv_room (Nat.le_of_ble_eq_true rfl)) dX4_demandAbove_63 ⟨(Nat.le_of_ble_eq_true rfl), (Nat.le_of_ble_eq_true rfl)⟩) hS (fun H locs hW hS => ?_)
          refine lv_imul hx hb dX4_demandAbove_66 ?_
          refine lv_iadd hx hb dX4_demandAbove_67 ?_
          refine lv_istore_n (lv' := [(3, .int (x3 + ((((s4 8 ((x6.toNatClampNeg)) 0 6)) * r10)))), (7, .ref (ad 8 (x6.toNatClampNeg) 0)), (1, .ref (ad 8 a1 0)), (2, .int x2), (4, .ref (ad 1 0 0)), (5, .int x5), (6, .int x6)]) hx hb dX4_demandAbove_68 rfl hl (by decide) rfl (fun ls hl => ?_)
          refine lv_iinc (v := (x6 + 1)) (lv' := [(6, .int (x6 + 1)), (3, .int (x3 + ((((s4 8 ((x6.toNatClampNeg)) 0 6)) * r10)))), (7, .ref (ad 8 (x6.toNatClampNeg) 0)), (1, .ref (ad 8 a1 0)), (2, .int x2), (4, .ref (ad 1 0 0)), (5, .int x5)]) hx hb dX4_demandAbove_69 hl (k := 6) rfl rfl (by decide) rfl (fun ls hl => ?_)
          refine lv_goto (tgt := 16) hx hb dX4_demandAbove_72 (by decide) ?_
          exact hk16 _ _ _ _ _ _ v1 hf hW hS (lv_sub hl [3, 4, 1, 5, 6, 0] rfl)
set_option maxHeartbeats 4000000 in
set_option maxRecDepth 100000 in
theorem t_X4_demandAbove {p : Program} {l : Launch} {e : Env} {s : State} {m : MethodId} {args : Array Value} {below : List Frame} {meth : Method} {c : Code} {D : va_G} {cy : Nat → ClassId} {ad : ks_A} {En : Nat → Prop} {n0 : Nat → Prop} {σ0 : ks_S} {o : Int64} {N : Nat} {out : (Int32 × ks_S)} (C : ks_M p s m args meth c D cy ad En (fun k => ks_g k = 0) n0 σ0 o wsX4_demandAbove cX4_demandAbove RX4 8 (some .int)) {σ : ks_S} {a1 : Nat} {x2 : Int32} (v1 : ks_v En 8 a1 0) (hf : f_X4_demandAbove N σ a1 x2 = some out) {H : Heap} {locs : List Loc} {ls : Array Slot} (hW : ks_W D cy ad En σ o H) (hS : va_S (ks_F n0) s.heap H locs) (hl : lv_has ls 8 [(0, .ref (ad 0 0 0)), (1, .ref (ad 8 a1 0)), (2, .int x2)]) : W p l e (ks_Rm 1 0 0 21) s m args below meth c H locs 0 0 (MQ below (ks_Qi D cy ad En n0 o out) args s 0 0 (ks_F n0)) (F0 m 0 ls []) := by
  obtain ⟨hx, hb, hml, hr, hown, hts, hlocks, hG, hU0, hE⟩ := id C
  have hK := hU0.2.2
  unfold f_X4_demandAbove at hf
  refine lv_iconst (v := 0) hx hb dX4_demandAbove_0 (by decide) ?_
  refine lv_istore_n (lv' := [(3, .int 0), (0, .ref (ad 0 0 0)), (1, .ref (ad 8 a1 0)), (2, .int x2)]) hx hb dX4_demandAbove_1 rfl hl (by decide) rfl (fun ls hl => ?_)
  refine lv_aload_n hx hb dX4_demandAbove_2 rfl (lv_at hl 1 rfl) ?_
  refine va_get (D := D) (ci := 4) (v := .ref (ad 1 0 0)) (C := RX4) (T := TX4) (N := 8) hx hb hts in_X4_demandAbove_4 hown hK (ks_P1 hW (ks_v0 (i := 0) (j := 0) (hE 0 rfl)) (ks_c0 cy ad o 0 0 _)) 0 rfl rfl 0 (by decide) (hts (.fieldLink RX4 11 "SpinKernel" "tasks" "[LSpinKernel$Task;") (by decide +kernel)) (fun _ h => h) rfl dX4_demandAbove_3 ?_
  refine lv_astore (lv' := [(4, .ref (ad 1 0 0)), (3, .int 0), (0, .ref (ad 0 0 0)), (1, .ref (ad 8 a1 0)), (2, .int x2)]) hx hb dX4_demandAbove_6 hl (by decide) rfl (fun ls hl => ?_)
  refine lv_aload hx hb dX4_demandAbove_8 (lv_at hl 0 rfl) ?_
  refine ks_alen hx hb hK hW (ks_v1 (i := 0) (j := 0) (hE 1 rfl)) 3 (ks_c1 cy ad o 0 0 _) rfl (v := 16) rfl dX4_demandAbove_10 ?_
  refine lv_istore (lv' := [(5, .int 16), (4, .ref (ad 1 0 0)), (3, .int 0), (0, .ref (ad 0 0 0)), (1, .ref (ad 8 a1 0)), (2, .int x2)]) hx hb dX4_demandAbove_11 hl (by decide) rfl (fun ls hl => ?_)
  refine lv_iconst (v := 0) hx hb dX4_demandAbove_13 (by decide) ?_
  refine lv_istore (lv' := [(6, .int 0), (5, .int 16), (4, .ref (ad 1 0 0)), (3, .int 0), (0, .ref (ad 0 0 0)), (1, .ref (ad 8 a1 0)), (2, .int x2)]) hx hb dX4_demandAbove_14 hl (by decide) rfl (fun ls hl => ?_)
  exact t_X4_demandAbove_16 C _ _ _ _ _ _ _ v1 hf hW hS (lv_sub hl [5, 6, 3, 2, 1, 0] rfl)
set_option maxHeartbeats 4000000 in
set_option maxRecDepth 100000 in
theorem m_X4_demandAbove (l : Launch) (D : va_G) (cy : Nat → ClassId) (ad : ks_A) (En : Nat → Prop) (n0 : Nat → Prop) (hG : ks_G ad En n0) (hE : ∀ k, ks_g k = 0 → En k) (o : Int64) {N : Nat} {σ : ks_S} {a1 : Nat} {x2 : Int32} (v1 : ks_v En 8 a1 0) {out : (Int32 × ks_S)} (hf : f_X4_demandAbove N σ a1 x2 = some out) : Met l yX4_demandAbove wsX4_demandAbove (ks_Rm 1 0 0 21) (va_Pc [.ref (ad 0 0 0), .ref (ad 8 a1 0), .int x2] (ks_U D cy ad En n0 σ o)) (ks_Qi D cy ad En n0 o out) 0 0 (ks_F n0) := by
  refine Met.ofW (cc := cX4_demandAbove) (maxL := 8) (ret := some .int) (by decide) rfl ?_
  intro p e s m args below meth c s₁ B hml hv
  obtain ⟨rfl, hU⟩ := hv
  have hl := lv_entry ([.ref (ad 0 0 0), .ref (ad 8 a1 0), .int x2]) (n := 8) (Nat.le_of_ble_eq_true rfl)
  rw [lg_entry_eq]
  generalize (lg_sl ([.ref (ad 0 0 0), .ref (ad 8 a1 0), .int x2]) ++ List.replicate (8 - (lg_sl ([.ref (ad 0 0 0), .ref (ad 8 a1 0), .int x2])).length) Slot.unset).toArray = ls at hl ⊢
  exact t_X4_demandAbove ⟨B.exec, B.bytes, hml, B.returns, findClass_of_methodNamed B.named, atoms_spec (ws := wsX4_demandAbove) B.pre, B.notSynchronized, hG, hU, hE⟩ v1 hf hU.2.1 va_S.rf hl

/-! SpinKernel.responseOf(LSpinKernel$Task;)I -/
def f_X4_responseOf_16 (N : Nat) : Nat → ks_S → Nat → Int32 → Int32 → Int32 → Option (Int32 × ks_S)
  | 0, _, _, _, _, _ => none
  | n + 1, σ, a1, x2, x3, x4 => (if 10000 < x4 then some ((-1), σ) else (if ((σ 8 a1 0 4)) < x3 then some ((-1), σ) else ((f_X4_demandAbove N σ a1 x3).bind fun (r8, s7) => (if ((x2 + r8)) = x3 then some (x3, s7) else f_X4_responseOf_16 N n s7 a1 x2 ((x2 + r8)) ((x4 + 1))))))
def f_X4_responseOf (N : Nat) (σ : ks_S) (a1 : Nat) : Option (Int32 × ks_S) :=
  ((f_X4_blockingOf N σ a1).bind fun (r3, s2) => f_X4_responseOf_16 N N s2 a1 ((((σ 8 a1 0 6)) + r3)) ((((σ 8 a1 0 6)) + r3)) 0)
theorem in_X4_responseOf_3 : ∀ w ∈ wsX30, w ∈ wsX4_responseOf := by decide +kernel
set_option maxHeartbeats 4000000 in
set_option maxRecDepth 100000 in
theorem t_X4_responseOf_16 {p : Program} {l : Launch} {e : Env} {s : State} {m : MethodId} {args : Array Value} {below : List Frame} {meth : Method} {c : Code} {D : va_G} {cy : Nat → ClassId} {ad : ks_A} {En : Nat → Prop} {n0 : Nat → Prop} {σ0 : ks_S} {o : Int64} {N : Nat} {out : (Int32 × ks_S)} (C : ks_M p s m args meth c D cy ad En (fun k => ks_g k = 0) n0 σ0 o wsX4_responseOf cX4_responseOf RX4 6 (some .int)) : ∀ (n : Nat) (σ : ks_S) (a1 : Nat) (x2 : Int32) (x3 : Int32) (x4 : Int32), ks_v En 8 a1 0 → f_X4_responseOf_16 N n σ a1 x2 x3 x4 = some out → ∀ {H : Heap} {locs : List Loc} {ls : Array Slot}, ks_W D cy ad En σ o H → va_S (ks_F n0) s.heap H locs → lv_has ls 6 [(0, .ref (ad 0 0 0)), (1, .ref (ad 8 a1 0)), (2, .int x2), (3, .int x3), (4, .int x4)] → W p l e (ks_Rm 3 0 0 68) s m args below meth c H locs 0 0 (MQ below (ks_Qi D cy ad En n0 o out) args s 0 0 (ks_F n0)) (F0 m 16 ls []) := by
  obtain ⟨hx, hb, hml, hr, hown, hts, hlocks, hG, hU0, hE⟩ := id C
  have hK := hU0.2.2
  intro n
  induction n with
  | zero => intro σ a1 x2 x3 x4; intro v1 hf; exact absurd hf (by simp [f_X4_responseOf_16])
  | succ n hk16 =>
    intro σ a1 x2 x3 x4 v1 hf H locs ls hW hS hl
    rw [f_X4_responseOf_16] at hf
    refine lv_iload hx hb dX4_responseOf_16 (lv_at hl 4 rfl) ?_
    refine lv_sipush (v := 10000) hx hb dX4_responseOf_18 (by decide) ?_
    refine lv_icmp_gt (tgt := 59) hx hb dX4_responseOf_21 (by decide) (fun c4 => ?_) (fun c4 => ?_)
    · rw [if_pos c4] at hf
      refine lv_iconst (v := (-1)) hx hb dX4_responseOf_59 (by decide) ?_
      exact ks_iret C hf hW hS dX4_responseOf_60
    · rw [if_neg c4] at hf
      refine lv_iload_n hx hb dX4_responseOf_24 rfl (lv_at hl 3 rfl) ?_
      refine lv_aload_n hx hb dX4_responseOf_25 rfl (lv_at hl 1 rfl) ?_
      refine va_get (D := D) (ci := 3) (v := .int (σ 8 a1 0 4)) (C := RX3) (T := TX3) (N := 10) hx hb hts in_X4_responseOf_3 hown hK (ks_P1 hW v1 (ks_c8 cy ad o a1 0 _)) 0 rfl rfl 4 (by decide) (hts (.fieldLink RX4 196 "SpinKernel$Task" "deadline" "I") (by decide +kernel)) (fun _ h => h) rfl dX4_responseOf_26 ?_
      refine lv_icmp_gt (tgt := 59) hx hb dX4_responseOf_29 (by decide) (fun c5 => ?_) (fun c5 => ?_)
      · rw [if_pos c5] at hf
        refine lv_iconst (v := (-1)) hx hb dX4_responseOf_59 (by decide) ?_
        exact ks_iret C hf hW hS dX4_responseOf_60
      · rw [if_neg c5] at hf
        refine lv_iload_n hx hb dX4_responseOf_32 rfl (lv_at hl 2 rfl) ?_
        refine lv_aload_n hx hb dX4_responseOf_33 rfl (lv_at hl 0 rfl) ?_
        refine lv_aload_n hx hb dX4_responseOf_34 rfl (lv_at hl 1 rfl) ?_
        refine lv_iload_n hx hb dX4_responseOf_35 rfl (lv_at hl 3 rfl) ?_
        obtain ⟨⟨r8, s7⟩, hc6, hf⟩ := ks_bind hf
        try dsimp only at hf
        refine ks_calli (va_runV (As := [.ref (ad 8 a1 0), .int x3]) (rest := [.int x2]) ⟨hx, hb, hml, hown, hts⟩ (m_X4_demandAbove l D cy ad En n0 hG hE o v1 hc6) (cwV 2 hts gX4_responseOf_X4_demandAbove rfl rfl rfl (by decide +kernel) ⟨(Nat.le_of_ble_eq_true rfl), (Nat.le_of_ble_eq_true rfl)⟩) ⟨ks_U.blind, ks_recv hK hW (ks_v0 (i := 0) (j := 0) (hE 0 rfl)) (ks_c0 cy ad o 0 0 _) rfl, fun U hU hWm => ⟨rfl, hU0.now hS hW hWm.alike hU⟩⟩ rfl rfl hl.1 rfl (lv_room (Nat.le_of_ble_eq_true rfl)) dX4_responseOf_36 ⟨(Nat.le_of_ble_eq_true rfl), (Nat.le_of_ble_eq_true rfl)⟩) hS (fun H locs hW hS => ?_)
        refine lv_iadd hx hb dX4_responseOf_39 ?_
        refine lv_istore (lv' := [(5, .int (x2 + r8)), (0, .ref (ad 0 0 0)), (1, .ref (ad 8 a1 0)), (2, .int x2), (3, .int x3), (4, .int x4)]) hx hb dX4_responseOf_40 hl (by decide) rfl (fun ls hl => ?_)
        refine lv_iload hx hb dX4_responseOf_42 (lv_at hl 0 rfl) ?_
        refine lv_iload_n hx hb dX4_responseOf_44 rfl (lv_at hl 4 rfl) ?_
        refine lv_icmp_ne (tgt := 50) hx hb dX4_responseOf_45 (by decide) (fun c9 => ?_) (fun c9 => ?_)
        · rw [if_neg c9] at hf
          refine lv_iload hx hb dX4_responseOf_50 (lv_at hl 0 rfl) ?_
          refine lv_istore_n (lv' := [(3, .int (x2 + r8)), (5, .int (x2 + r8)), (0, .ref (ad 0 0 0)), (1, .ref (ad 8 a1 0)), (2, .int x2), (4, .int x4)]) hx hb dX4_responseOf_52 rfl hl (by decide) rfl (fun ls hl => ?_)
          refine lv_iinc (v := (x4 + 1)) (lv' := [(4, .int (x4 + 1)), (3, .int (x2 + r8)), (5, .int (x2 + r8)), (0, .ref (ad 0 0 0)), (1, .ref (ad 8 a1 0)), (2, .int x2)]) hx hb dX4_responseOf_53 hl (k := 5) rfl rfl (by decide) rfl (fun ls hl => ?_)
          refine lv_goto (tgt := 16) hx hb dX4_responseOf_56 (by decide) ?_
          exact hk16 _ _ _ _ _ v1 hf hW hS (lv_sub hl [3, 4, 5, 1, 0] rfl)
        · rw [if_pos c9] at hf
          refine lv_iload_n hx hb dX4_responseOf_48 rfl (lv_at hl 4 rfl) ?_
          exact ks_iret C hf hW hS dX4_responseOf_49
set_option maxHeartbeats 4000000 in
set_option maxRecDepth 100000 in
theorem t_X4_responseOf {p : Program} {l : Launch} {e : Env} {s : State} {m : MethodId} {args : Array Value} {below : List Frame} {meth : Method} {c : Code} {D : va_G} {cy : Nat → ClassId} {ad : ks_A} {En : Nat → Prop} {n0 : Nat → Prop} {σ0 : ks_S} {o : Int64} {N : Nat} {out : (Int32 × ks_S)} (C : ks_M p s m args meth c D cy ad En (fun k => ks_g k = 0) n0 σ0 o wsX4_responseOf cX4_responseOf RX4 6 (some .int)) {σ : ks_S} {a1 : Nat} (v1 : ks_v En 8 a1 0) (hf : f_X4_responseOf N σ a1 = some out) {H : Heap} {locs : List Loc} {ls : Array Slot} (hW : ks_W D cy ad En σ o H) (hS : va_S (ks_F n0) s.heap H locs) (hl : lv_has ls 6 [(0, .ref (ad 0 0 0)), (1, .ref (ad 8 a1 0))]) : W p l e (ks_Rm 3 0 0 68) s m args below meth c H locs 0 0 (MQ below (ks_Qi D cy ad En n0 o out) args s 0 0 (ks_F n0)) (F0 m 0 ls []) := by
  obtain ⟨hx, hb, hml, hr, hown, hts, hlocks, hG, hU0, hE⟩ := id C
  have hK := hU0.2.2
  unfold f_X4_responseOf at hf
  refine lv_aload_n hx hb dX4_responseOf_0 rfl (lv_at hl 1 rfl) ?_
  refine va_get (D := D) (ci := 3) (v := .int (σ 8 a1 0 6)) (C := RX3) (T := TX3) (N := 10) hx hb hts in_X4_responseOf_3 hown hK (ks_P1 hW v1 (ks_c8 cy ad o a1 0 _)) 0 rfl rfl 6 (by decide) (hts (.fieldLink RX4 99 "SpinKernel$Task" "inflated" "I") (by decide +kernel)) (fun _ h => h) rfl dX4_responseOf_1 ?_
  refine lv_aload_n hx hb dX4_responseOf_4 rfl (lv_at hl 0 rfl) ?_
  refine lv_aload_n hx hb dX4_responseOf_5 rfl (lv_at hl 1 rfl) ?_
  obtain ⟨⟨r3, s2⟩, hc1, hf⟩ := ks_bind hf
  try dsimp only at hf
  refine ks_calli (va_runV (As := [.ref (ad 8 a1 0)]) (rest := [.int (σ 8 a1 0 6)]) ⟨hx, hb, hml, hown, hts⟩ (m_X4_blockingOf l D cy ad En n0 hG hE o v1 hc1) (cwV 1 hts gX4_responseOf_X4_blockingOf rfl rfl rfl (by decide +kernel) ⟨(Nat.le_of_ble_eq_true rfl), (Nat.le_of_ble_eq_true rfl)⟩) ⟨ks_U.blind, ks_recv hK hW (ks_v0 (i := 0) (j := 0) (hE 0 rfl)) (ks_c0 cy ad o 0 0 _) rfl, fun U hU hWm => ⟨rfl, hU0.now hS hW hWm.alike hU⟩⟩ rfl rfl hl.1 rfl (lv_room (Nat.le_of_ble_eq_true rfl)) dX4_responseOf_6 ⟨(Nat.le_of_ble_eq_true rfl), (Nat.le_of_ble_eq_true rfl)⟩) hS (fun H locs hW hS => ?_)
  refine lv_iadd hx hb dX4_responseOf_9 ?_
  refine lv_istore_n (lv' := [(2, .int (((σ 8 a1 0 6)) + r3)), (0, .ref (ad 0 0 0)), (1, .ref (ad 8 a1 0))]) hx hb dX4_responseOf_10 rfl hl (by decide) rfl (fun ls hl => ?_)
  refine lv_iload_n hx hb dX4_responseOf_11 rfl (lv_at hl 0 rfl) ?_
  refine lv_istore_n (lv' := [(3, .int (((σ 8 a1 0 6)) + r3)), (2, .int (((σ 8 a1 0 6)) + r3)), (0, .ref (ad 0 0 0)), (1, .ref (ad 8 a1 0))]) hx hb dX4_responseOf_12 rfl hl (by decide) rfl (fun ls hl => ?_)
  refine lv_iconst (v := 0) hx hb dX4_responseOf_13 (by decide) ?_
  refine lv_istore (lv' := [(4, .int 0), (3, .int (((σ 8 a1 0 6)) + r3)), (2, .int (((σ 8 a1 0 6)) + r3)), (0, .ref (ad 0 0 0)), (1, .ref (ad 8 a1 0))]) hx hb dX4_responseOf_14 hl (by decide) rfl (fun ls hl => ?_)
  exact t_X4_responseOf_16 C _ _ _ _ _ _ v1 hf hW hS (lv_sub hl [3, 4, 2, 1, 0] rfl)
set_option maxHeartbeats 4000000 in
set_option maxRecDepth 100000 in
theorem m_X4_responseOf (l : Launch) (D : va_G) (cy : Nat → ClassId) (ad : ks_A) (En : Nat → Prop) (n0 : Nat → Prop) (hG : ks_G ad En n0) (hE : ∀ k, ks_g k = 0 → En k) (o : Int64) {N : Nat} {σ : ks_S} {a1 : Nat} (v1 : ks_v En 8 a1 0) {out : (Int32 × ks_S)} (hf : f_X4_responseOf N σ a1 = some out) : Met l yX4_responseOf wsX4_responseOf (ks_Rm 3 0 0 68) (va_Pc [.ref (ad 0 0 0), .ref (ad 8 a1 0)] (ks_U D cy ad En n0 σ o)) (ks_Qi D cy ad En n0 o out) 0 0 (ks_F n0) := by
  refine Met.ofW (cc := cX4_responseOf) (maxL := 6) (ret := some .int) (by decide) rfl ?_
  intro p e s m args below meth c s₁ B hml hv
  obtain ⟨rfl, hU⟩ := hv
  have hl := lv_entry ([.ref (ad 0 0 0), .ref (ad 8 a1 0)]) (n := 6) (Nat.le_of_ble_eq_true rfl)
  rw [lg_entry_eq]
  generalize (lg_sl ([.ref (ad 0 0 0), .ref (ad 8 a1 0)]) ++ List.replicate (6 - (lg_sl ([.ref (ad 0 0 0), .ref (ad 8 a1 0)])).length) Slot.unset).toArray = ls at hl ⊢
  exact t_X4_responseOf ⟨B.exec, B.bytes, hml, B.returns, findClass_of_methodNamed B.named, atoms_spec (ws := wsX4_responseOf) B.pre, B.notSynchronized, hG, hU, hE⟩ v1 hf hU.2.1 va_S.rf hl
