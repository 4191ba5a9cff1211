/-! SpinKernel.joinGroups(II)V -/
def f_X4_joinGroups_36 (N : Nat) : Nat → ks_S → Int32 → Int32 → Int32 → Option ks_S
  | 0, _, _, _, _ => none
  | n + 1, σ, x3, x4, x5 => (if 8 ≤ x5 then some σ else (if ks_in x5 8 = true then (if ((σ 3 0 0 x5.toNatClampNeg)) = x4 then (if ks_in x5 8 = true then f_X4_joinGroups_36 N n ((ks_up σ 3 0 0 x5.toNatClampNeg x3)) x3 x4 ((x5 + 1)) else none) else f_X4_joinGroups_36 N n σ x3 x4 ((x5 + 1))) else none))
def f_X4_joinGroups (N : Nat) (σ : ks_S) (x1 : Int32) (x2 : Int32) : Option ks_S :=
  (if ks_in x1 8 = true then (if ks_in x2 8 = true then (if ks_in x1 8 = true then (if ks_in x2 8 = true then f_X4_joinGroups_36 N N σ ((if ((σ 3 0 0 x2.toNatClampNeg)) < ((σ 3 0 0 x1.toNatClampNeg)) then ((σ 3 0 0 x2.toNatClampNeg)) else ((σ 3 0 0 x1.toNatClampNeg)))) ((if ((σ 3 0 0 x1.toNatClampNeg)) < ((σ 3 0 0 x2.toNatClampNeg)) then ((σ 3 0 0 x2.toNatClampNeg)) else ((σ 3 0 0 x1.toNatClampNeg)))) 0 else none) else none) else none) else none)
theorem in_X4_joinGroups_4 : ∀ w ∈ wsX40, w ∈ wsX4_joinGroups := by decide +kernel
set_option maxHeartbeats 4000000 in
set_option maxRecDepth 100000 in
theorem t_X4_joinGroups_36 {p : Program} {l : Launch} {e : Env} {s : State} {m : MethodId} {args : Array Value} {below : List Frame} {meth : Method} {c : Code} {D : va_G} {cy : Nat → ClassId} {ad : ks_A} {En : Nat → Prop} {n0 : Nat → Prop} {σ0 : ks_S} {o : Int64} {N : Nat} {out : ks_S} (C : ks_M p s m args meth c D cy ad En (fun k => ks_g k = 0) n0 σ0 o wsX4_joinGroups cX4_joinGroups RX4 6 (none)) : ∀ (n : Nat) (σ : ks_S) (x3 : Int32) (x4 : Int32) (x5 : Int32), f_X4_joinGroups_36 N n σ x3 x4 x5 = some out → ∀ {H : Heap} {locs : List Loc} {ls : Array Slot}, ks_W D cy ad En σ o H → va_S (ks_F n0) s.heap H locs → lv_has ls 6 [(0, .ref (ad 0 0 0)), (3, .int x3), (4, .int x4), (5, .int x5)] → W p l e (ks_Rm 1 0 0 13) s m args below meth c H locs 0 0 (MQ below (ks_Qv D cy ad En n0 o out) args s 0 0 (ks_F n0)) (F0 m 36 ls []) := by
  obtain ⟨hx, hb, hml, hr, hown, hts, hlocks, hG, hU0, hE⟩ := id C
  have hK := hU0.2.2
  intro n
  induction n with
  | zero => intro σ x3 x4 x5; intro  hf; exact absurd hf (by simp [f_X4_joinGroups_36])
  | succ n hk36 =>
    intro σ x3 x4 x5  hf H locs ls hW hS hl
    rw [f_X4_joinGroups_36] at hf
    refine lv_iload hx hb dX4_joinGroups_36 (lv_at hl 3 rfl) ?_
    refine lv_bipush (v := 8) hx hb dX4_joinGroups_38 (by decide) ?_
    refine lv_icmp_ge (tgt := 69) hx hb dX4_joinGroups_40 (by decide) (fun c5 => ?_) (fun c5 => ?_)
    · rw [if_pos c5] at hf
      exact ks_vret C hf hW hS dX4_joinGroups_69
    · rw [if_neg c5] at hf
      refine lv_aload_n hx hb dX4_joinGroups_43 rfl (lv_at hl 0 rfl) ?_
      refine va_get (D := D) (ci := 4) (v := .ref (ad 3 0 0)) (C := RX4) (T := TX4) (N := 8) hx hb hts in_X4_joinGroups_4 hown hK (ks_P1 hW (ks_v0 (i := 0) (j := 0) (hE 0 rfl)) (ks_c0 cy ad o 0 0 _)) 0 rfl rfl 2 (by decide) (hts (.fieldLink RX4 21 "SpinKernel" "leastOfGroup" "[I") (by decide +kernel)) (fun _ h => h) rfl dX4_joinGroups_44 ?_
      refine lv_iload hx hb dX4_joinGroups_47 (lv_at hl 3 rfl) ?_
      obtain ⟨hi6, hf⟩ := ks_guard hf
      refine ks_iald hx hb hK hW (ks_v3 (i := 0) (j := 0) (hE 3 rfl)) (ks_c3 cy ad o 0 0 _) hi6 dX4_joinGroups_49 ?_
      refine lv_iload hx hb dX4_joinGroups_50 (lv_at hl 2 rfl) ?_
      refine lv_icmp_ne (tgt := 63) hx hb dX4_joinGroups_52 (by decide) (fun c7 => ?_) (fun c7 => ?_)
      · rw [if_neg c7] at hf
        refine lv_iinc (v := (x5 + 1)) (lv' := [(5, .int (x5 + 1)), (0, .ref (ad 0 0 0)), (3, .int x3), (4, .int x4)]) hx hb dX4_joinGroups_63 hl (k := 3) rfl rfl (by decide) rfl (fun ls hl => ?_)
        refine lv_goto (tgt := 36) hx hb dX4_joinGroups_66 (by decide) ?_
        exact hk36 _ _ _ _ hf hW hS (lv_sub hl [1, 2, 3, 0] rfl)
      · rw [if_pos c7] at hf
        refine lv_aload_n hx hb dX4_joinGroups_55 rfl (lv_at hl 0 rfl) ?_
        refine va_get (D := D) (ci := 4) (v := .ref (ad 3 0 0)) (C := RX4) (T := TX4) (N := 8) hx hb hts in_X4_joinGroups_4 hown hK (ks_P1 hW (ks_v0 (i := 0) (j := 0) (hE 0 rfl)) (ks_c0 cy ad o 0 0 _)) 0 rfl rfl 2 (by decide) (hts (.fieldLink RX4 21 "SpinKernel" "leastOfGroup" "[I") (by decide +kernel)) (fun _ h => h) rfl dX4_joinGroups_56 ?_
        refine lv_iload hx hb dX4_joinGroups_59 (lv_at hl 3 rfl) ?_
        refine lv_iload_n hx hb dX4_joinGroups_61 rfl (lv_at hl 1 rfl) ?_
        obtain ⟨hi8, hf⟩ := ks_guard hf
        refine ks_iast hx hb hK hG hW hS (ks_v3 (i := 0) (j := 0) (hE 3 rfl)) (fun c => ks_c3 cy ad o 0 0 c) hi8 dX4_joinGroups_62 (fun H locs hW hS => ?_)
        refine lv_iinc (v := (x5 + 1)) (lv' := [(5, .int (x5 + 1)), (0, .ref (ad 0 0 0)), (3, .int x3), (4, .int x4)]) hx hb dX4_joinGroups_63 hl (k := 3) rfl rfl (by decide) rfl (fun ls hl => ?_)
        refine lv_goto (tgt := 36) hx hb dX4_joinGroups_66 (by decide) ?_
        exact hk36 _ _ _ _ hf hW hS (lv_sub hl [1, 2, 3, 0] rfl)
set_option maxHeartbeats 4000000 in
set_option maxRecDepth 100000 in
theorem t_X4_joinGroups {p : Program} {l : Launch} {e : Env} {s : State} {m : MethodId} {args : Array Value} {below : List Frame} {meth : Method} {c : Code} {D : va_G} {cy : Nat → ClassId} {ad : ks_A} {En : Nat → Prop} {n0 : Nat → Prop} {σ0 : ks_S} {o : Int64} {N : Nat} {out : ks_S} (C : ks_M p s m args meth c D cy ad En (fun k => ks_g k = 0) n0 σ0 o wsX4_joinGroups cX4_joinGroups RX4 6 (none)) {σ : ks_S} {x1 : Int32} {x2 : Int32}  (hf : f_X4_joinGroups N σ x1 x2 = some out) {H : Heap} {locs : List Loc} {ls : Array Slot} (hW : ks_W D cy ad En σ o H) (hS : va_S (ks_F n0) s.heap H locs) (hl : lv_has ls 6 [(0, .ref (ad 0 0 0)), (1, .int x1), (2, .int x2)]) : W p l e (ks_Rm 1 0 0 13) s m args below meth c H locs 0 0 (MQ below (ks_Qv D cy ad En n0 o out) args s 0 0 (ks_F n0)) (F0 m 0 ls []) := by
  obtain ⟨hx, hb, hml, hr, hown, hts, hlocks, hG, hU0, hE⟩ := id C
  have hK := hU0.2.2
  unfold f_X4_joinGroups at hf
  refine lv_aload_n hx hb dX4_joinGroups_0 rfl (lv_at hl 0 rfl) ?_
  refine va_get (D := D) (ci := 4) (v := .ref (ad 3 0 0)) (C := RX4) (T := TX4) (N := 8) hx hb hts in_X4_joinGroups_4 hown hK (ks_P1 hW (ks_v0 (i := 0) (j := 0) (hE 0 rfl)) (ks_c0 cy ad o 0 0 _)) 0 rfl rfl 2 (by decide) (hts (.fieldLink RX4 21 "SpinKernel" "leastOfGroup" "[I") (by decide +kernel)) (fun _ h => h) rfl dX4_joinGroups_1 ?_
  refine lv_iload_n hx hb dX4_joinGroups_4 rfl (lv_at hl 1 rfl) ?_
  obtain ⟨hi1, hf⟩ := ks_guard hf
  refine ks_iald hx hb hK hW (ks_v3 (i := 0) (j := 0) (hE 3 rfl)) (ks_c3 cy ad o 0 0 _) hi1 dX4_joinGroups_5 ?_
  refine lv_aload_n hx hb dX4_joinGroups_6 rfl (lv_at hl 0 rfl) ?_
  refine va_get (D := D) (ci := 4) (v := .ref (ad 3 0 0)) (C := RX4) (T := TX4) (N := 8) hx hb hts in_X4_joinGroups_4 hown hK (ks_P1 hW (ks_v0 (i := 0) (j := 0) (hE 0 rfl)) (ks_c0 cy ad o 0 0 _)) 0 rfl rfl 2 (by decide) (hts (.fieldLink RX4 21 "SpinKernel" "leastOfGroup" "[I") (by decide +kernel)) (fun _ h => h) rfl dX4_joinGroups_7 ?_
  refine lv_iload_n hx hb dX4_joinGroups_10 rfl (lv_at hl 2 rfl) ?_
  obtain ⟨hi2, hf⟩ := ks_guard hf
  refine ks_iald hx hb hK hW (ks_v3 (i := 0) (j := 0) (hE 3 rfl)) (ks_c3 cy ad o 0 0 _) hi2 dX4_joinGroups_11 ?_
  refine va_mmin hx hb (hml.trans hl.1.symm) hown (hts (.methodLink RX4 158 Lib.Math.min.name) (by decide +kernel)) (hts (.static Lib.Math.min.name) (by decide +kernel)) (hts (.initialized "java/lang/Math") (by decide +kernel)) (hts (.code Lib.Math.min.name Lib.Math.min.code 2 (some .int)) (by decide +kernel)) (Nat.le_of_ble_eq_true rfl) (Nat.le_of_ble_eq_true rfl) (Nat.le_of_ble_eq_true rfl) (Nat.le_of_ble_eq_true rfl) dX4_joinGroups_12 ?_
  refine lv_istore_n (lv' := [(3, .int (if ((σ 3 0 0 x2.toNatClampNeg)) < ((σ 3 0 0 x1.toNatClampNeg)) then ((σ 3 0 0 x2.toNatClampNeg)) else ((σ 3 0 0 x1.toNatClampNeg)))), (0, .ref (ad 0 0 0)), (1, .int x1), (2, .int x2)]) hx hb dX4_joinGroups_15 rfl hl (by decide) rfl (fun ls hl => ?_)
  refine lv_aload_n hx hb dX4_joinGroups_16 rfl (lv_at hl 1 rfl) ?_
  refine va_get (D := D) (ci := 4) (v := .ref (ad 3 0 0)) (C := RX4) (T := TX4) (N := 8) hx hb hts in_X4_joinGroups_4 hown hK (ks_P1 hW (ks_v0 (i := 0) (j := 0) (hE 0 rfl)) (ks_c0 cy ad o 0 0 _)) 0 rfl rfl 2 (by decide) (hts (.fieldLink RX4 21 "SpinKernel" "leastOfGroup" "[I") (by decide +kernel)) (fun _ h => h) rfl dX4_joinGroups_17 ?_
  refine lv_iload_n hx hb dX4_joinGroups_20 rfl (lv_at hl 2 rfl) ?_
  obtain ⟨hi3, hf⟩ := ks_guard hf
  refine ks_iald hx hb hK hW (ks_v3 (i := 0) (j := 0) (hE 3 rfl)) (ks_c3 cy ad o 0 0 _) hi3 dX4_joinGroups_21 ?_
  refine lv_aload_n hx hb dX4_joinGroups_22 rfl (lv_at hl 1 rfl) ?_
  refine va_get (D := D) (ci := 4) (v := .ref (ad 3 0 0)) (C := RX4) (T := TX4) (N := 8) hx hb hts in_X4_joinGroups_4 hown hK (ks_P1 hW (ks_v0 (i := 0) (j := 0) (hE 0 rfl)) (ks_c0 cy ad o 0 0 _)) 0 rfl rfl 2 (by decide) (hts (.fieldLink RX4 21 "SpinKernel" "leastOfGroup" "[I") (by decide +kernel)) (fun _ h => h) rfl dX4_joinGroups_23 ?_
  refine lv_iload_n hx hb dX4_joinGroups_26 rfl (lv_at hl 3 rfl) ?_
  obtain ⟨hi4, hf⟩ := ks_guard hf
  refine ks_iald hx hb hK hW (ks_v3 (i := 0) (j := 0) (hE 3 rfl)) (ks_c3 cy ad o 0 0 _) hi4 dX4_joinGroups_27 ?_
  refine va_mmax hx hb (hml.trans hl.1.symm) hown (hts (.methodLink RX4 164 Lib.Math.max.name) (by decide +kernel)) (hts (.static Lib.Math.max.name) (by decide +kernel)) (hts (.initialized "java/lang/Math") (by decide +kernel)) (hts (.code Lib.Math.max.name Lib.Math.max.code 2 (some .int)) (by decide +kernel)) (Nat.le_of_ble_eq_true rfl) (Nat.le_of_ble_eq_true rfl) (Nat.le_of_ble_eq_true rfl) (Nat.le_of_ble_eq_true rfl) dX4_joinGroups_28 ?_
  refine lv_istore (lv' := [(4, .int (if ((σ 3 0 0 x1.toNatClampNeg)) < ((σ 3 0 0 x2.toNatClampNeg)) then ((σ 3 0 0 x2.toNatClampNeg)) else ((σ 3 0 0 x1.toNatClampNeg)))), (3, .int (if ((σ 3 0 0 x2.toNatClampNeg)) < ((σ 3 0 0 x1.toNatClampNeg)) then ((σ 3 0 0 x2.toNatClampNeg)) else ((σ 3 0 0 x1.toNatClampNeg)))), (0, .ref (ad 0 0 0)), (1, .int x1), (2, .int x2)]) hx hb dX4_joinGroups_31 hl (by decide) rfl (fun ls hl => ?_)
  refine lv_iconst (v := 0) hx hb dX4_joinGroups_33 (by decide) ?_
  refine lv_istore (lv' := [(5, .int 0), (4, .int (if ((σ 3 0 0 x1.toNatClampNeg)) < ((σ 3 0 0 x2.toNatClampNeg)) then ((σ 3 0 0 x2.toNatClampNeg)) else ((σ 3 0 0 x1.toNatClampNeg)))), (3, .int (if ((σ 3 0 0 x2.toNatClampNeg)) < ((σ 3 0 0 x1.toNatClampNeg)) then ((σ 3 0 0 x2.toNatClampNeg)) else ((σ 3 0 0 x1.toNatClampNeg)))), (0, .ref (ad 0 0 0)), (1, .int x1), (2, .int x2)]) hx hb dX4_joinGroups_34 hl (by decide) rfl (fun ls hl => ?_)
  exact t_X4_joinGroups_36 C _ _ _ _ _  hf hW hS (lv_sub hl [3, 2, 1, 0] rfl)
set_option maxHeartbeats 4000000 in
set_option maxRecDepth 100000 in
theorem m_X4_joinGroups (l : Launch) (D : va_G) (cy : Nat → ClassId) (ad : ks_A) (En : Nat → Prop) (n0 : Nat → Prop) (hG : ks_G ad En n0) (hE : ∀ k, ks_g k = 0 → En k) (o : Int64) {N : Nat} {σ : ks_S} {x1 : Int32} {x2 : Int32}  {out : ks_S} (hf : f_X4_joinGroups N σ x1 x2 = some out) : Met l yX4_joinGroups wsX4_joinGroups (ks_Rm 1 0 0 13) (va_Pc [.ref (ad 0 0 0), .int x1, .int x2] (ks_U D cy ad En n0 σ o)) (ks_Qv D cy ad En n0 o out) 0 0 (ks_F n0) := by
  refine Met.ofW (cc := cX4_joinGroups) (maxL := 6) (ret := none) (by decide) rfl ?_
  intro p e s m args below meth c s₁ B hml hv
  obtain ⟨rfl, hU⟩ := hv
  have hl := lv_entry ([.ref (ad 0 0 0), .int x1, .int x2]) (n := 6) (Nat.le_of_ble_eq_true rfl)
  rw [lg_entry_eq]
  generalize (lg_sl ([.ref (ad 0 0 0), .int x1, .int x2]) ++ List.replicate (6 - (lg_sl ([.ref (ad 0 0 0), .int x1, .int x2])).length) Slot.unset).toArray = ls at hl ⊢
  exact t_X4_joinGroups ⟨B.exec, B.bytes, hml, B.returns, findClass_of_methodNamed B.named, atoms_spec (ws := wsX4_joinGroups) B.pre, B.notSynchronized, hG, hU, hE⟩  hf hU.2.1 va_S.rf hl

/-! SpinKernel.formGroups()V -/
def f_X4_formGroups_44 (N : Nat) (k2 : ks_S → Int32 → Option ks_S) (k31 : ks_S → Int32 → Int32 → Option ks_S) : Nat → ks_S → Int32 → Int32 → Nat → Int32 → Option ks_S
  | 0, _, _, _, _, _ => none
  | n + 1, σ, x2, x3, a4, x5 => (if ((σ 8 a4 0 0)) = 0 then k31 σ x2 ((x3 + 1)) else (if ((σ 8 a4 0 7)) ≤ x5 then k31 σ x2 ((x3 + 1)) else (if ks_in x5 6 = true then ((f_X1_isOuter σ a4 ((x5.toNatClampNeg))).bind fun (r9, s8) => (if r9 = 0 then (if ks_in ((s8 11 a4 ((x5.toNatClampNeg)) 3)) 6 = true then ((f_X4_joinGroups N s8 ((s8 11 a4 ((x5.toNatClampNeg)) 1)) ((s8 11 a4 ((((s8 11 a4 ((x5.toNatClampNeg)) 3)).toNatClampNeg)) 1))).bind fun s13 => f_X4_formGroups_44 N k2 k31 n s13 x2 x3 a4 ((x5 + 1))) else none) else f_X4_formGroups_44 N k2 k31 n s8 x2 x3 a4 ((x5 + 1)))) else none)))
def f_X4_formGroups_31 (N : Nat) (k2 : ks_S → Int32 → Option ks_S) : Nat → ks_S → Int32 → Int32 → Option ks_S
  | 0, _, _, _ => none
  | n + 1, σ, x2, x3 => (if x2 ≤ x3 then some σ else (if ks_in x3 16 = true then f_X4_formGroups_44 N k2 (f_X4_formGroups_31 N k2 n) N σ x2 x3 ((x3.toNatClampNeg)) 0 else none))
def f_X4_formGroups_2 (N : Nat) : Nat → ks_S → Int32 → Option ks_S
  | 0, _, _ => none
  | n + 1, σ, x1 => (if 8 ≤ x1 then f_X4_formGroups_31 N (f_X4_formGroups_2 N n) N σ 16 0 else (if ks_in x1 8 = true then f_X4_formGroups_2 N n ((ks_up σ 3 0 0 x1.toNatClampNeg x1)) ((x1 + 1)) else none))
def f_X4_formGroups (N : Nat) (σ : ks_S)  : Option ks_S :=
  f_X4_formGroups_2 N N σ 0
theorem in_X4_formGroups_1 : ∀ w ∈ wsX10, w ∈ wsX4_formGroups := by decide +kernel
theorem in_X4_formGroups_3 : ∀ w ∈ wsX30, w ∈ wsX4_formGroups := by decide +kernel
theorem in_X4_formGroups_4 : ∀ w ∈ wsX40, w ∈ wsX4_formGroups := by decide +kernel
set_option maxHeartbeats 4000000 in
set_option maxRecDepth 100000 in
theorem t_X4_formGroups_44 {p : Program} {l : Launch} {e : Env} {s : State} {m : MethodId} {args : Array Value} {below : List Frame} {meth : Method} {c : Code} {D : va_G} {cy : Nat → ClassId} {ad : ks_A} {En : Nat → Prop} {n0 : Nat → Prop} {σ0 : ks_S} {o : Int64} {N : Nat} {out : ks_S} (C : ks_M p s m args meth c D cy ad En (fun k => ks_g k = 0) n0 σ0 o wsX4_formGroups cX4_formGroups RX4 7 (none)) {k2 : ks_S → Int32 → Option ks_S} {k31 : ks_S → Int32 → Int32 → Option ks_S} (hk2 : ∀ (σ : ks_S) (x1 : Int32), k2 σ x1 = some out → ∀ {H : Heap} {locs : List Loc} {ls : Array Slot}, ks_W D cy ad En σ o H → va_S (ks_F n0) s.heap H locs → lv_has ls 7 [(0, .ref (ad 0 0 0)), (1, .int x1)] → W p l e (ks_Rm 2 0 0 38) s m args below meth c H locs 0 0 (MQ below (ks_Qv D cy ad En n0 o out) args s 0 0 (ks_F n0)) (F0 m 2 ls [])) (hk31 : ∀ (σ : ks_S) (x2 : Int32) (x3 : Int32), k31 σ x2 x3 = some out → ∀ {H : Heap} {locs : List Loc} {ls : Array Slot}, ks_W D cy ad En σ o H → va_S (ks_F n0) s.heap H locs → lv_has ls 7 [(0, .ref (ad 0 0 0)), (1, .ref (ad 1 0 0)), (2, .int x2), (3, .int x3)] → W p l e (ks_Rm 2 0 0 38) s m args below meth c H locs 0 0 (MQ below (ks_Qv D cy ad En n0 o out) args s 0 0 (ks_F n0)) (F0 m 31 ls [])) : ∀ (n : Nat) (σ : ks_S) (x2 : Int32) (x3 : Int32) (a4 : Nat) (x5 : Int32), ks_v En 8 a4 0 → f_X4_formGroups_44 N k2 k31 n σ x2 x3 a4 x5 = some out → ∀ {H : Heap} {locs : List Loc} {ls : Array Slot}, ks_W D cy ad En σ o H → va_S (ks_F n0) s.heap H locs → lv_has ls 7 [(0, .ref (ad 0 0 0)), (1, .ref (ad 1 0 0)), (2, .int x2), (3, .int x3), (4, .ref (ad 8 a4 0)), (5, .int x5)] → W p l e (ks_Rm 2 0 0 38) s m args below meth c H locs 0 0 (MQ below (ks_Qv D cy ad En n0 o out) args s 0 0 (ks_F n0)) (F0 m 44 ls []) := by
  obtain ⟨hx, hb, hml, hr, hown, hts, hlocks, hG, hU0, hE⟩ := id C
  have hK := hU0.2.2
  intro n
  induction n with
  | zero => intro σ x2 x3 a4 x5; intro v4 hf; exact absurd hf (by simp [f_X4_formGroups_44])
  | succ n hk44 =>
    intro σ x2 x3 a4 x5 v4 hf H locs ls hW hS hl
    rw [f_X4_formGroups_44] at hf
    refine lv_aload hx hb dX4_formGroups_44 (lv_at hl 4 rfl) ?_
    refine va_get (D := D) (ci := 3) (v := .int (σ 8 a4 0 0)) (C := RX3) (T := TX3) (N := 10) hx hb hts in_X4_formGroups_3 hown hK (ks_P1 hW v4 (ks_c8 cy ad o a4 0 _)) 0 rfl rfl 0 (by decide) (hts (.fieldLink RX4 55 "SpinKernel$Task" "isThere" "Z") (by decide +kernel)) (fun _ h => h) rfl dX4_formGroups_46 ?_
    refine lv_if_eq (tgt := 109) hx hb dX4_formGroups_49 (by decide) (fun c4 => ?_) (fun c4 => ?_)
    · rw [if_pos c4] at hf
      refine lv_iinc (v := (x3 + 1)) (lv' := [(3, .int (x3 + 1)), (0, .ref (ad 0 0 0)), (1, .ref (ad 1 0 0)), (2, .int x2), (4, .ref (ad 8 a4 0)), (5, .int x5)]) hx hb dX4_formGroups_109 hl (k := 3) rfl rfl (by decide) rfl (fun ls hl => ?_)
      refine lv_goto (tgt := 31) hx hb dX4_formGroups_112 (by decide) ?_
      exact hk31 _ _ _ hf hW hS (lv_sub hl [1, 2, 3, 0] rfl)
    · rw [if_neg c4] at hf
      refine lv_iload hx hb dX4_formGroups_52 (lv_at hl 5 rfl) ?_
      refine lv_aload hx hb dX4_formGroups_54 (lv_at hl 4 rfl) ?_
      refine va_get (D := D) (ci := 3) (v := .int (σ 8 a4 0 7)) (C := RX3) (T := TX3) (N := 10) hx hb hts in_X4_formGroups_3 hown hK (ks_P1 hW v4 (ks_c8 cy ad o a4 0 _)) 0 rfl rfl 7 (by decide) (hts (.fieldLink RX4 79 "SpinKernel$Task" "count" "I") (by decide +kernel)) (fun _ h => h) rfl dX4_formGroups_56 ?_
      refine lv_icmp_ge (tgt := 109) hx hb dX4_formGroups_59 (by decide) (fun c5 => ?_) (fun c5 => ?_)
      · rw [if_pos c5] at hf
        refine lv_iinc (v := (x3 + 1)) (lv' := [(3, .int (x3 + 1)), (0, .ref (ad 0 0 0)), (1, .ref (ad 1 0 0)), (2, .int x2), (4, .ref (ad 8 a4 0)), (5, .int x5)]) hx hb dX4_formGroups_109 hl (k := 3) rfl rfl (by decide) rfl (fun ls hl => ?_)
        refine lv_goto (tgt := 31) hx hb dX4_formGroups_112 (by decide) ?_
        exact hk31 _ _ _ hf hW hS (lv_sub hl [1, 2, 3, 0] rfl)
      · rw [if_neg c5] at hf
        refine lv_aload hx hb dX4_formGroups_62 (lv_at hl 4 rfl) ?_
        refine va_get (D := D) (ci := 3) (v := .ref (ad 10 a4 0)) (C := RX3) (T := TX3) (N := 10) hx hb hts in_X4_formGroups_3 hown hK (ks_P1 hW v4 (ks_c8 cy ad o a4 0 _)) 0 rfl rfl 8 (by decide) (hts (.fieldLink RX4 199 "SpinKernel$Task" "requests" "[LSpinKernel$Request;") (by decide +kernel)) (fun _ h => h) rfl dX4_formGroups_64 ?_
        refine lv_iload hx hb dX4_formGroups_67 (lv_at hl 5 rfl) ?_
        obtain ⟨hi6, hf⟩ := ks_guard hf
        refine ks_aald hx hb hK hW (ks_v10 (j := 0) v4.2.1 (hE 10 rfl)) 5 (ks_c10 cy ad o a4 0 _) rfl rfl hi6 dX4_formGroups_69 ?_
        refine lv_astore (lv' := [(6, .ref (ad 11 a4 (x5.toNatClampNeg))), (0, .ref (ad 0 0 0)), (1, .ref (ad 1 0 0)), (2, .int x2), (3, .int x3), (4, .ref (ad 8 a4 0)), (5, .int x5)]) hx hb dX4_formGroups_70 hl (by decide) rfl (fun ls hl => ?_)
        refine lv_aload hx hb dX4_formGroups_72 (lv_at hl 0 rfl) ?_
        obtain ⟨⟨r9, s8⟩, hc7, hf⟩ := ks_bind hf
        try dsimp only at hf
        refine ks_calli (va_runV (As := []) (rest := []) ⟨hx, hb, hml, hown, hts⟩ (m_X1_isOuter l D cy ad En n0 hG hE o (ks_v11 (ks_v10 (j := 0) v4.2.1 (hE 10 rfl)).2.1 (ks_in_lt hi6) (hE 11 rfl)) hc7) (cwV 0 hts gX4_formGroups_X1_isOuter rfl rfl rfl (by decide +kernel) ⟨(Nat.le_of_ble_eq_true rfl), (Nat.le_of_ble_eq_true rfl)⟩) ⟨ks_U.blind, ks_recv hK hW (ks_v11 (ks_v10 (j := 0) v4.2.1 (hE 10 rfl)).2.1 (ks_in_lt hi6) (hE 11 rfl)) (ks_c11 cy ad o a4 (x5.toNatClampNeg) _) rfl, fun U hU hWm => ⟨rfl, hU0.now hS hW hWm.alike hU⟩⟩ rfl rfl hl.1 rfl (lv_room (Nat.le_of_ble_eq_true rfl)) dX4_formGroups_74 ⟨(Nat.le_of_ble_eq_true rfl), (Nat.le_of_ble_eq_true rfl)⟩) hS (fun H locs hW hS => ?_)
        refine lv_if_ne (tgt := 103) hx hb dX4_formGroups_77 (by decide) (fun c10 => ?_) (fun c10 => ?_)
        · rw [if_neg c10] at hf
          refine lv_iinc (v := (x5 + 1)) (lv' := [(5, .int (x5 + 1)), (6, .ref (ad 11 a4 (x5.toNatClampNeg))), (0, .ref (ad 0 0 0)), (1, .ref (ad 1 0 0)), (2, .int x2), (3, .int x3), (4, .ref (ad 8 a4 0))]) hx hb dX4_formGroups_103 hl (k := 6) rfl rfl (by decide) rfl (fun ls hl => ?_)
          refine lv_goto (tgt := 44) hx hb dX4_formGroups_106 (by decide) ?_
          exact hk44 _ _ _ _ _ v4 hf hW hS (lv_sub hl [2, 3, 4, 5, 6, 0] rfl)
        · rw [if_pos c10] at hf
          refine lv_aload_n hx hb dX4_formGroups_80 rfl (lv_at hl 1 rfl) ?_
          refine lv_aload hx hb dX4_formGroups_81 (lv_at hl 0 rfl) ?_
          refine va_get (D := D) (ci := 1) (v := .int (s8 11 a4 ((x5.toNatClampNeg)) 1)) (C := RX1) (T := TX1) (N := 8) hx hb hts in_X4_formGroups_1 hown hK (ks_P1 hW (ks_v11 (ks_v10 (j := 0) v4.2.1 (hE 10 rfl)).2.1 (ks_in_lt hi6) (hE 11 rfl)) (ks_c11 cy ad o a4 (x5.toNatClampNeg) _)) 0 rfl rfl 1 (by decide) (hts (.fieldLink RX4 220 "SpinKernel$Request" "lock" "I") (by decide +kernel)) (fun _ h => h) rfl dX4_formGroups_83 ?_
          refine lv_aload hx hb dX4_formGroups_86 (lv_at hl 5 rfl) ?_
          refine va_get (D := D) (ci := 3) (v := .ref (ad 10 a4 0)) (C := RX3) (T := TX3) (N := 10) hx hb hts in_X4_formGroups_3 hown hK (ks_P1 hW v4 (ks_c8 cy ad o a4 0 _)) 0 rfl rfl 8 (by decide) (hts (.fieldLink RX4 199 "SpinKernel$Task" "requests" "[LSpinKernel$Request;") (by decide +kernel)) (fun _ h => h) rfl dX4_formGroups_88 ?_
          refine lv_aload hx hb dX4_formGroups_91 (lv_at hl 0 rfl) ?_
          refine va_get (D := D) (ci := 1) (v := .int (s8 11 a4 ((x5.toNatClampNeg)) 3)) (C := RX1) (T := TX1) (N := 8) hx hb hts in_X4_formGroups_1 hown hK (ks_P1 hW (ks_v11 (ks_v10 (j := 0) v4.2.1 (hE 10 rfl)).2.1 (ks_in_lt hi6) (hE 11 rfl)) (ks_c11 cy ad o a4 (x5.toNatClampNeg) _)) 0 rfl rfl 3 (by decide) (hts (.fieldLink RX4 223 "SpinKernel$Request" "in" "I") (by decide +kernel)) (fun _ h => h) rfl dX4_formGroups_93 ?_
          obtain ⟨hi11, hf⟩ := ks_guard hf
          refine ks_aald hx hb hK hW (ks_v10 (j := 0) v4.2.1 (hE 10 rfl)) 5 (ks_c10 cy ad o a4 0 _) rfl rfl hi11 dX4_formGroups_96 ?_
          refine va_get (D := D) (ci := 1) (v := .int (s8 11 a4 ((((s8 11 a4 ((x5.toNatClampNeg)) 3)).toNatClampNeg)) 1)) (C := RX1) (T := TX1) (N := 8) hx hb hts in_X4_formGroups_1 hown hK (ks_P1 hW (ks_v11 (ks_v10 (j := 0) v4.2.1 (hE 10 rfl)).2.1 (ks_in_lt hi11) (hE 11 rfl)) (ks_c11 cy ad o a4 (((s8 11 a4 ((x5.toNatClampNeg)) 3)).toNatClampNeg) _)) 0 rfl rfl 1 (by decide) (hts (.fieldLink RX4 220 "SpinKernel$Request" "lock" "I") (by decide +kernel)) (fun _ h => h) rfl dX4_formGroups_97 ?_
          obtain ⟨s13, hc12, hf⟩ := ks_bind hf
          try dsimp only at hf
          refine ks_callv (va_runV (As := [.int (s8 11 a4 ((x5.toNatClampNeg)) 1), .int (s8 11 a4 ((((s8 11 a4 ((x5.toNatClampNeg)) 3)).toNatClampNeg)) 1)]) (rest := []) ⟨hx, hb, hml, hown, hts⟩ (m_X4_joinGroups l D cy ad En n0 hG hE o hc12) (cwV 2 hts gX4_formGroups_X4_joinGroups rfl rfl rfl (by decide +kernel) ⟨(Nat.le_of_ble_eq_true rfl), (Nat.le_of_ble_eq_true rfl)⟩) ⟨ks_U.blind, ks_recv hK hW (ks_v0 (i := 0) (j := 0) (hE 0 rfl)) (ks_c0 cy ad o 0 0 _) rfl, fun U hU hWm => ⟨rfl, hU0.now hS hW hWm.alike hU⟩⟩ rfl rfl hl.1 rfl (lv_room (Nat.le_of_ble_eq_true rfl)) dX4_formGroups_100 ⟨(Nat.le_of_ble_eq_true rfl), (Nat.le_of_ble_eq_true rfl)⟩) hS (fun H locs hW hS => ?_)
          refine lv_iinc (v := (x5 + 1)) (lv' := [(5, .int (x5 + 1)), (6, .ref (ad 11 a4 (x5.toNatClampNeg))), (0, .ref (ad 0 0 0)), (1, .ref (ad 1 0 0)), (2, .int x2), (3, .int x3), (4, .ref (ad 8 a4 0))]) hx hb dX4_formGroups_103 hl (k := 6) rfl rfl (by decide) rfl (fun ls hl => ?_)
          refine lv_goto (tgt := 44) hx hb dX4_formGroups_106 (by decide) ?_
          exact hk44 _ _ _ _ _ v4 hf hW hS (lv_sub hl [2, 3, 4, 5, 6, 0] rfl)
set_option maxHeartbeats 4000000 in
set_option maxRecDepth 100000 in
theorem t_X4_formGroups_31 {p : Program} {l : Launch} {e : Env} {s : State} {m : MethodId} {args : Array Value} {below : List Frame} {meth : Method} {c : Code} {D : va_G} {cy : Nat → ClassId} {ad : ks_A} {En : Nat → Prop} {n0 : Nat → Prop} {σ0 : ks_S} {o : Int64} {N : Nat} {out : ks_S} (C : ks_M p s m args meth c D cy ad En (fun k => ks_g k = 0) n0 σ0 o wsX4_formGroups cX4_formGroups RX4 7 (none)) {k2 : ks_S → Int32 → Option ks_S} (hk2 : ∀ (σ : ks_S) (x1 : Int32), k2 σ x1 = some out → ∀ {H : Heap} {locs : List Loc} {ls : Array Slot}, ks_W D cy ad En σ o H → va_S (ks_F n0) s.heap H locs → lv_has ls 7 [(0, .ref (ad 0 0 0)), (1, .int x1)] → W p l e (ks_Rm 2 0 0 38) s m args below meth c H locs 0 0 (MQ below (ks_Qv D cy ad En n0 o out) args s 0 0 (ks_F n0)) (F0 m 2 ls [])) : ∀ (n : Nat) (σ : ks_S) (x2 : Int32) (x3 : Int32), f_X4_formGroups_31 N k2 n σ x2 x3 = some out → ∀ {H : Heap} {locs : List Loc} {ls : Array Slot}, ks_W D cy ad En σ o H → va_S (ks_F n0) s.heap H locs → lv_has ls 7 [(0, .ref (ad 0 0 0)), (1, .ref (ad 1 0 0)), (2, .int x2), (3, .int x3)] → W p l e (ks_Rm 2 0 0 38) s m args below meth c H locs 0 0 (MQ below (ks_Qv D cy ad En n0 o out) args s 0 0 (ks_F n0)) (F0 m 31 ls []) := by
  obtain ⟨hx, hb, hml, hr, hown, hts, hlocks, hG, hU0, hE⟩ := id C
  have hK := hU0.2.2
  intro n
  induction n with
  | zero => intro σ x2 x3; intro  hf; exact absurd hf (by simp [f_X4_formGroups_31])
  | succ n hk31 =>
    intro σ x2 x3  hf H locs ls hW hS hl
    rw [f_X4_formGroups_31] at hf
    refine lv_iload_n hx hb dX4_formGroups_31 rfl (lv_at hl 3 rfl) ?_
    refine lv_iload_n hx hb dX4_formGroups_32 rfl (lv_at hl 2 rfl) ?_
    refine lv_icmp_ge (tgt := 115) hx hb dX4_formGroups_33 (by decide) (fun c2 => ?_) (fun c2 => ?_)
    · rw [if_pos c2] at hf
      exact ks_vret C hf hW hS dX4_formGroups_115
    · rw [if_neg c2] at hf
      refine lv_aload_n hx hb dX4_formGroups_36 rfl (lv_at hl 1 rfl) ?_
      refine lv_iload_n hx hb dX4_formGroups_37 rfl (lv_at hl 3 rfl) ?_
      obtain ⟨hi3, hf⟩ := ks_guard hf
      refine ks_aald hx hb hK hW (ks_v1 (i := 0) (j := 0) (hE 1 rfl)) 3 (ks_c1 cy ad o 0 0 _) rfl rfl hi3 dX4_formGroups_38 ?_
      refine lv_astore (lv' := [(4, .ref (ad 8 (x3.toNatClampNeg) 0)), (0, .ref (ad 0 0 0)), (1, .ref (ad 1 0 0)), (2, .int x2), (3, .int x3)]) hx hb dX4_formGroups_39 hl (by decide) rfl (fun ls hl => ?_)
      refine lv_iconst (v := 0) hx hb dX4_formGroups_41 (by decide) ?_
      refine lv_istore (lv' := [(5, .int 0), (4, .ref (ad 8 (x3.toNatClampNeg) 0)), (0, .ref (ad 0 0 0)), (1, .ref (ad 1 0 0)), (2, .int x2), (3, .int x3)]) hx hb dX4_formGroups_42 hl (by decide) rfl (fun ls hl => ?_)
      exact t_X4_formGroups_44 C hk2 hk31 _ _ _ _ _ _ (ks_v8 (j := 0) (ks_in_lt hi3) (hE 8 rfl)) hf hW hS (lv_sub hl [2, 3, 4, 5, 1, 0] rfl)
set_option maxHeartbeats 4000000 in
set_option maxRecDepth 100000 in
theorem t_X4_formGroups_2 {p : Program} {l : Launch} {e : Env} {s : State} {m : MethodId} {args : Array Value} {below : List Frame} {meth : Method} {c : Code} {D : va_G} {cy : Nat → ClassId} {ad : ks_A} {En : Nat → Prop} {n0 : Nat → Prop} {σ0 : ks_S} {o : Int64} {N : Nat} {out : ks_S} (C : ks_M p s m args meth c D cy ad En (fun k => ks_g k = 0) n0 σ0 o wsX4_formGroups cX4_formGroups RX4 7 (none)) : ∀ (n : Nat) (σ : ks_S) (x1 : Int32), f_X4_formGroups_2 N n σ x1 = some out → ∀ {H : Heap} {locs : List Loc} {ls : Array Slot}, ks_W D cy ad En σ o H → va_S (ks_F n0) s.heap H locs → lv_has ls 7 [(0, .ref (ad 0 0 0)), (1, .int x1)] → W p l e (ks_Rm 2 0 0 38) s m args below meth c H locs 0 0 (MQ below (ks_Qv D cy ad En n0 o out) args s 0 0 (ks_F n0)) (F0 m 2 ls []) := by
  obtain ⟨hx, hb, hml, hr, hown, hts, hlocks, hG, hU0, hE⟩ := id C
  have hK := hU0.2.2
  intro n
  induction n with
  | zero => intro σ x1; intro  hf; exact absurd hf (by simp [f_X4_formGroups_2])
  | succ n hk2 =>
    intro σ x1  hf H locs ls hW hS hl
    rw [f_X4_formGroups_2] at hf
    refine lv_iload_n hx hb dX4_formGroups_2 rfl (lv_at hl 1 rfl) ?_
    refine lv_bipush (v := 8) hx hb dX4_formGroups_3 (by decide) ?_
    refine lv_icmp_ge (tgt := 21) hx hb dX4_formGroups_5 (by decide) (fun c1 => ?_) (fun c1 => ?_)
    · rw [if_pos c1] at hf
      refine lv_aload_n hx hb dX4_formGroups_21 rfl (lv_at hl 0 rfl) ?_
      refine va_get (D := D) (ci := 4) (v := .ref (ad 1 0 0)) (C := RX4) (T := TX4) (N := 8) hx hb hts in_X4_formGroups_4 hown hK (ks_P1 hW (ks_v0 (i := 0) (j := 0) (hE 0 rfl)) (ks_c0 cy ad o 0 0 _)) 0 rfl rfl 0 (by decide) (hts (.fieldLink RX4 11 "SpinKernel" "tasks" "[LSpinKernel$Task;") (by decide +kernel)) (fun _ h => h) rfl dX4_formGroups_22 ?_
      refine lv_astore_n (lv' := [(1, .ref (ad 1 0 0)), (0, .ref (ad 0 0 0))]) hx hb dX4_formGroups_25 rfl hl (by decide) rfl (fun ls hl => ?_)
      refine lv_aload_n hx hb dX4_formGroups_26 rfl (lv_at hl 0 rfl) ?_
      refine ks_alen hx hb hK hW (ks_v1 (i := 0) (j := 0) (hE 1 rfl)) 3 (ks_c1 cy ad o 0 0 _) rfl (v := 16) rfl dX4_formGroups_27 ?_
      refine lv_istore_n (lv' := [(2, .int 16), (1, .ref (ad 1 0 0)), (0, .ref (ad 0 0 0))]) hx hb dX4_formGroups_28 rfl hl (by decide) rfl (fun ls hl => ?_)
      refine lv_iconst (v := 0) hx hb dX4_formGroups_29 (by decide) ?_
      refine lv_istore_n (lv' := [(3, .int 0), (2, .int 16), (1, .ref (ad 1 0 0)), (0, .ref (ad 0 0 0))]) hx hb dX4_formGroups_30 rfl hl (by decide) rfl (fun ls hl => ?_)
      exact t_X4_formGroups_31 C hk2 _ _ _ _  hf hW hS (lv_sub hl [3, 2, 1, 0] rfl)
    · rw [if_neg c1] at hf
      refine lv_aload_n hx hb dX4_formGroups_8 rfl (lv_at hl 0 rfl) ?_
      refine va_get (D := D) (ci := 4) (v := .ref (ad 3 0 0)) (C := RX4) (T := TX4) (N := 8) hx hb hts in_X4_formGroups_4 hown hK (ks_P1 hW (ks_v0 (i := 0) (j := 0) (hE 0 rfl)) (ks_c0 cy ad o 0 0 _)) 0 rfl rfl 2 (by decide) (hts (.fieldLink RX4 21 "SpinKernel" "leastOfGroup" "[I") (by decide +kernel)) (fun _ h => h) rfl dX4_formGroups_9 ?_
      refine lv_iload_n hx hb dX4_formGroups_12 rfl (lv_at hl 1 rfl) ?_
      refine lv_iload_n hx hb dX4_formGroups_13 rfl (lv_at hl 1 rfl) ?_
      obtain ⟨hi15, hf⟩ := ks_guard hf
      refine ks_iast hx hb hK hG hW hS (ks_v3 (i := 0) (j := 0) (hE 3 rfl)) (fun c => ks_c3 cy ad o 0 0 c) hi15 dX4_formGroups_14 (fun H locs hW hS => ?_)
      refine lv_iinc (v := (x1 + 1)) (lv' := [(1, .int (x1 + 1)), (0, .ref (ad 0 0 0))]) hx hb dX4_formGroups_15 hl (k := 1) rfl rfl (by decide) rfl (fun ls hl => ?_)
      refine lv_goto (tgt := 2) hx hb dX4_formGroups_18 (by decide) ?_
      exact hk2 _ _ hf hW hS (lv_sub hl [1, 0] rfl)
set_option maxHeartbeats 4000000 in
set_option maxRecDepth 100000 in
theorem t_X4_formGroups {p : Program} {l : Launch} {e : Env} {s : State} {m : MethodId} {args : Array Value} {below : List Frame} {meth : Method} {c : Code} {D : va_G} {cy : Nat → ClassId} {ad : ks_A} {En : Nat → Prop} {n0 : Nat → Prop} {σ0 : ks_S} {o : Int64} {N : Nat} {out : ks_S} (C : ks_M p s m args meth c D cy ad En (fun k => ks_g k = 0) n0 σ0 o wsX4_formGroups cX4_formGroups RX4 7 (none)) {σ : ks_S}   (hf : f_X4_formGroups N σ  = some out) {H : Heap} {locs : List Loc} {ls : Array Slot} (hW : ks_W D cy ad En σ o H) (hS : va_S (ks_F n0) s.heap H locs) (hl : lv_has ls 7 [(0, .ref (ad 0 0 0))]) : W p l e (ks_Rm 2 0 0 38) s m args below meth c H locs 0 0 (MQ below (ks_Qv D cy ad En n0 o out) args s 0 0 (ks_F n0)) (F0 m 0 ls []) := by
  obtain ⟨hx, hb, hml, hr, hown, hts, hlocks, hG, hU0, hE⟩ := id C
  have hK := hU0.2.2
  unfold f_X4_formGroups at hf
  refine lv_iconst (v := 0) hx hb dX4_formGroups_0 (by decide) ?_
  refine lv_istore_n (lv' := [(1, .int 0), (0, .ref (ad 0 0 0))]) hx hb dX4_formGroups_1 rfl hl (by decide) rfl (fun ls hl => ?_)
  exact t_X4_formGroups_2 C _ _ _  hf hW hS (lv_sub hl [1, 0] rfl)
set_option maxHeartbeats 4000000 in
set_option maxRecDepth 100000 in
theorem m_X4_formGroups (l : Launch) (D : va_G) (cy : Nat → ClassId) (ad : ks_A) (En : Nat → Prop) (n0 : Nat → Prop) (hG : ks_G ad En n0) (hE : ∀ k, ks_g k = 0 → En k) (o : Int64) {N : Nat} {σ : ks_S}   {out : ks_S} (hf : f_X4_formGroups N σ  = some out) : Met l yX4_formGroups wsX4_formGroups (ks_Rm 2 0 0 38) (va_Pc [.ref (ad 0 0 0)] (ks_U D cy ad En n0 σ o)) (ks_Qv D cy ad En n0 o out) 0 0 (ks_F n0) := by
  refine Met.ofW (cc := cX4_formGroups) (maxL := 7) (ret := none) (by decide) rfl ?_
  intro p e s m args below meth c s₁ B hml hv
  obtain ⟨rfl, hU⟩ := hv
  have hl := lv_entry ([.ref (ad 0 0 0)]) (n := 7) (Nat.le_of_ble_eq_true rfl)
  rw [lg_entry_eq]
  generalize (lg_sl ([.ref (ad 0 0 0)]) ++ List.replicate (7 - (lg_sl ([.ref (ad 0 0 0)])).length) Slot.unset).toArray = ls at hl ⊢
  exact t_X4_formGroups ⟨B.exec, B.bytes, hml, B.returns, findClass_of_methodNamed B.named, atoms_spec (ws := wsX4_formGroups) B.pre, B.notSynchronized, hG, hU, hE⟩  hf hU.2.1 va_S.rf hl

/-! SpinKernel.findLongest()V -/
def f_X4_findLongest_46 (N : Nat) (k2 : ks_S → Int32 → Option ks_S) (k33 : ks_S → Int32 → Int32 → Option ks_S) : Nat → ks_S → Int32 → Int32 → Nat → Int32 → Option ks_S
  | 0, _, _, _, _, _ => none
  | n + 1, σ, x2, x3, a4, x5 => (if ((σ 8 a4 0 0)) = 0 then k33 σ x2 ((x3 + 1)) else (if ((σ 8 a4 0 7)) ≤ x5 then k33 σ x2 ((x3 + 1)) else (if ks_in x5 6 = true then (if ks_in ((σ 11 a4 ((x5.toNatClampNeg)) 1)) 8 = true then ((f_X1_isOuter σ a4 ((x5.toNatClampNeg))).bind fun (r10, s9) => (if r10 = 0 then f_X4_findLongest_46 N k2 k33 n s9 x2 x3 a4 ((x5 + 1)) else (if ks_in ((s9 8 a4 0 1)) 4 = true then (if ks_in ((s9 8 a4 0 1)) 4 = true then (if ks_in ((σ 3 0 0 ((σ 11 a4 ((x5.toNatClampNeg)) 1)).toNatClampNeg)) 8 = true then (if ks_in ((σ 3 0 0 ((σ 11 a4 ((x5.toNatClampNeg)) 1)).toNatClampNeg)) 8 = true then f_X4_findLongest_46 N k2 k33 n ((ks_up s9 5 ((((s9 8 a4 0 1)).toNatClampNeg)) 0 ((σ 3 0 0 ((σ 11 a4 ((x5.toNatClampNeg)) 1)).toNatClampNeg)).toNatClampNeg ((if ((s9 5 ((((s9 8 a4 0 1)).toNatClampNeg)) 0 ((σ 3 0 0 ((σ 11 a4 ((x5.toNatClampNeg)) 1)).toNatClampNeg)).toNatClampNeg)) < ((s9 11 a4 ((x5.toNatClampNeg)) 2)) then ((s9 11 a4 ((x5.toNatClampNeg)) 2)) else ((s9 5 ((((s9 8 a4 0 1)).toNatClampNeg)) 0 ((σ 3 0 0 ((σ 11 a4 ((x5.toNatClampNeg)) 1)).toNatClampNeg)).toNatClampNeg)))))) x2 x3 a4 ((x5 + 1)) else none) else none) else none) else none))) else none) else none)))
def f_X4_findLongest_33 (N : Nat) (k2 : ks_S → Int32 → Option ks_S) : Nat → ks_S → Int32 → Int32 → Option ks_S
  | 0, _, _, _ => none
  | n + 1, σ, x2, x3 => (if x2 ≤ x3 then some σ else (if ks_in x3 16 = true then f_X4_findLongest_46 N k2 (f_X4_findLongest_33 N k2 n) N σ x2 x3 ((x3.toNatClampNeg)) 0 else none))
def f_X4_findLongest_2 (N : Nat) : Nat → ks_S → Int32 → Option ks_S
  | 0, _, _ => none
  | n + 1, σ, x1 => (if 4 ≤ x1 then f_X4_findLongest_33 N (f_X4_findLongest_2 N n) N σ 16 0 else (if ks_in x1 4 = true then ((f_fill_5 N σ ((x1.toNatClampNeg)) 0).bind fun s18 => f_X4_findLongest_2 N n s18 ((x1 + 1))) else none))
def f_X4_findLongest (N : Nat) (σ : ks_S)  : Option ks_S :=
  f_X4_findLongest_2 N N σ 0
theorem in_X4_findLongest_1 : ∀ w ∈ wsX10, w ∈ wsX4_findLongest := by decide +kernel
theorem in_X4_findLongest_3 : ∀ w ∈ wsX30, w ∈ wsX4_findLongest := by decide +kernel
theorem in_X4_findLongest_4 : ∀ w ∈ wsX40, w ∈ wsX4_findLongest := by decide +kernel
set_option maxHeartbeats 4000000 in
set_option maxRecDepth 100000 in
theorem t_X4_findLongest_46 {p : Program} {l : Launch} {e : Env} {s : State} {m : MethodId} {args : Array Value} {below : List Frame} {meth : Method} {c : Code} {D : va_G} {cy : Nat → ClassId} {ad : ks_A} {En : Nat → Prop} {n0 : Nat → Prop} {σ0 : ks_S} {o : Int64} {N : Nat} {out : ks_S} (C : ks_M p s m args meth c D cy ad En (fun k => ks_g k = 0) n0 σ0 o wsX4_findLongest cX4_findLongest RX4 8 (none)) {k2 : ks_S → Int32 → Option ks_S} {k33 : ks_S → Int32 → Int32 → Option ks_S} (hk2 : ∀ (σ : ks_S) (x1 : Int32), k2 σ x1 = some out → ∀ {H : Heap} {locs : List Loc} {ls : Array Slot}, ks_W D cy ad En σ o H → va_S (ks_F n0) s.heap H locs → lv_has ls 8 [(0, .ref (ad 0 0 0)), (1, .int x1)] → W p l e (ks_Rm 1 0 0 23) s m args below meth c H locs 0 0 (MQ below (ks_Qv D cy ad En n0 o out) args s 0 0 (ks_F n0)) (F0 m 2 ls [])) (hk33 : ∀ (σ : ks_S) (x2 : Int32) (x3 : Int32), k33 σ x2 x3 = some out → ∀ {H : Heap} {locs : List Loc} {ls : Array Slot}, ks_W D cy ad En σ o H → va_S (ks_F n0) s.heap H locs → lv_has ls 8 [(0, .ref (ad 0 0 0)), (1, .ref (ad 1 0 0)), (2, .int x2), (3, .int x3)] → W p l e (ks_Rm 1 0 0 23) s m args below meth c H locs 0 0 (MQ below (ks_Qv D cy ad En n0 o out) args s 0 0 (ks_F n0)) (F0 m 33 ls [])) : ∀ (n : Nat) (σ : ks_S) (x2 : Int32) (x3 : Int32) (a4 : Nat) (x5 : Int32), ks_v En 8 a4 0 → f_X4_findLongest_46 N k2 k33 n σ x2 x3 a4 x5 = some out → ∀ {H : Heap} {locs : List Loc} {ls : Array Slot}, ks_W D cy ad En σ o H → va_S (ks_F n0) s.heap H locs → lv_has ls 8 [(0, .ref (ad 0 0 0)), (1, .ref (ad 1 0 0)), (2, .int x2), (3, .int x3), (4, .ref (ad 8 a4 0)), (5, .int x5)] → W p l e (ks_Rm 1 0 0 23) s m args below meth c H locs 0 0 (MQ below (ks_Qv D cy ad En n0 o out) args s 0 0 (ks_F n0)) (F0 m 46 ls []) := by
  obtain ⟨hx, hb, hml, hr, hown, hts, hlocks, hG, hU0, hE⟩ := id C
  have hK := hU0.2.2
  intro n
  induction n with
  | zero => intro σ x2 x3 a4 x5; intro v4 hf; exact absurd hf (by simp [f_X4_findLongest_46])
  | succ n hk46 =>
    intro σ x2 x3 a4 x5 v4 hf H locs ls hW hS hl
    rw [f_X4_findLongest_46] at hf
    refine lv_aload hx hb dX4_findLongest_46 (lv_at hl 4 rfl) ?_
    refine va_get (D := D) (ci := 3) (v := .int (σ 8 a4 0 0)) (C := RX3) (T := TX3) (N := 10) hx hb hts in_X4_findLongest_3 hown hK (ks_P1 hW v4 (ks_c8 cy ad o a4 0 _)) 0 rfl rfl 0 (by decide) (hts (.fieldLink RX4 55 "SpinKernel$Task" "isThere" "Z") (by decide +kernel)) (fun _ h => h) rfl dX4_findLongest_48 ?_
    refine lv_if_eq (tgt := 134) hx hb dX4_findLongest_51 (by decide) (fun c4 => ?_) (fun c4 => ?_)
    · rw [if_pos c4] at hf
      refine lv_iinc (v := (x3 + 1)) (lv' := [(3, .int (x3 + 1)), (0, .ref (ad 0 0 0)), (1, .ref (ad 1 0 0)), (2, .int x2), (4, .ref (ad 8 a4 0)), (5, .int x5)]) hx hb dX4_findLongest_134 hl (k := 3) rfl rfl (by decide) rfl (fun ls hl => ?_)
      refine lv_goto (tgt := 33) hx hb dX4_findLongest_137 (by decide) ?_
      exact hk33 _ _ _ hf hW hS (lv_sub hl [1, 2, 3, 0] rfl)
    · rw [if_neg c4] at hf
      refine lv_iload hx hb dX4_findLongest_54 (lv_at hl 5 rfl) ?_
      refine lv_aload hx hb dX4_findLongest_56 (lv_at hl 4 rfl) ?_
      refine va_get (D := D) (ci := 3) (v := .int (σ 8 a4 0 7)) (C := RX3) (T := TX3) (N := 10) hx hb hts in_X4_findLongest_3 hown hK (ks_P1 hW v4 (ks_c8 cy ad o a4 0 _)) 0 rfl rfl 7 (by decide) (hts (.fieldLink RX4 79 "SpinKernel$Task" "count" "I") (by decide +kernel)) (fun _ h => h) rfl dX4_findLongest_58 ?_
      refine lv_icmp_ge (tgt := 134) hx hb dX4_findLongest_61 (by decide) (fun c5 => ?_) (fun c5 => ?_)
      · rw [if_pos c5] at hf
        refine lv_iinc (v := (x3 + 1)) (lv' := [(3, .int (x3 + 1)), (0, .ref (ad 0 0 0)), (1, .ref (ad 1 0 0)), (2, .int x2), (4, .ref (ad 8 a4 0)), (5, .int x5)]) hx hb dX4_findLongest_134 hl (k := 3) rfl rfl (by decide) rfl (fun ls hl => ?_)
        refine lv_goto (tgt := 33) hx hb dX4_findLongest_137 (by decide) ?_
        exact hk33 _ _ _ hf hW hS (lv_sub hl [1, 2, 3, 0] rfl)
      · rw [if_neg c5] at hf
        refine lv_aload hx hb dX4_findLongest_64 (lv_at hl 4 rfl) ?_
        refine va_get (D := D) (ci := 3) (v := .ref (ad 10 a4 0)) (C := RX3) (T := TX3) (N := 10) hx hb hts in_X4_findLongest_3 hown hK (ks_P1 hW v4 (ks_c8 cy ad o a4 0 _)) 0 rfl rfl 8 (by decide) (hts (.fieldLink RX4 199 "SpinKernel$Task" "requests" "[LSpinKernel$Request;") (by decide +kernel)) (fun _ h => h) rfl dX4_findLongest_66 ?_
        refine lv_iload hx hb dX4_findLongest_69 (lv_at hl 5 rfl) ?_
        obtain ⟨hi6, hf⟩ := ks_guard hf
        refine ks_aald hx hb hK hW (ks_v10 (j := 0) v4.2.1 (hE 10 rfl)) 5 (ks_c10 cy ad o a4 0 _) rfl rfl hi6 dX4_findLongest_71 ?_
        refine lv_astore (lv' := [(6, .ref (ad 11 a4 (x5.toNatClampNeg))), (0, .ref (ad 0 0 0)), (1, .ref (ad 1 0 0)), (2, .int x2), (3, .int x3), (4, .ref (ad 8 a4 0)), (5, .int x5)]) hx hb dX4_findLongest_72 hl (by decide) rfl (fun ls hl => ?_)
        refine lv_aload_n hx hb dX4_findLongest_74 rfl (lv_at hl 1 rfl) ?_
        refine va_get (D := D) (ci := 4) (v := .ref (ad 3 0 0)) (C := RX4) (T := TX4) (N := 8) hx hb hts in_X4_findLongest_4 hown hK (ks_P1 hW (ks_v0 (i := 0) (j := 0) (hE 0 rfl)) (ks_c0 cy ad o 0 0 _)) 0 rfl rfl 2 (by decide) (hts (.fieldLink RX4 21 "SpinKernel" "leastOfGroup" "[I") (by decide +kernel)) (fun _ h => h) rfl dX4_findLongest_75 ?_
        refine lv_aload hx hb dX4_findLongest_78 (lv_at hl 0 rfl) ?_
        refine va_get (D := D) (ci := 1) (v := .int (σ 11 a4 ((x5.toNatClampNeg)) 1)) (C := RX1) (T := TX1) (N := 8) hx hb hts in_X4_findLongest_1 hown hK (ks_P1 hW (ks_v11 (ks_v10 (j := 0) v4.2.1 (hE 10 rfl)).2.1 (ks_in_lt hi6) (hE 11 rfl)) (ks_c11 cy ad o a4 (x5.toNatClampNeg) _)) 0 rfl rfl 1 (by decide) (hts (.fieldLink RX4 220 "SpinKernel$Request" "lock" "I") (by decide +kernel)) (fun _ h => h) rfl dX4_findLongest_80 ?_
        obtain ⟨hi7, hf⟩ := ks_guard hf
        refine ks_iald hx hb hK hW (ks_v3 (i := 0) (j := 0) (hE 3 rfl)) (ks_c3 cy ad o 0 0 _) hi7 dX4_findLongest_83 ?_
        refine lv_istore (lv' := [(7, .int (σ 3 0 0 ((σ 11 a4 ((x5.toNatClampNeg)) 1)).toNatClampNeg)), (6, .ref (ad 11 a4 (x5.toNatClampNeg))), (0, .ref (ad 0 0 0)), (1, .ref (ad 1 0 0)), (2, .int x2), (3, .int x3), (4, .ref (ad 8 a4 0)), (5, .int x5)]) hx hb dX4_findLongest_84 hl (by decide) rfl (fun ls hl => ?_)
        refine lv_aload hx hb dX4_findLongest_86 (lv_at hl 1 rfl) ?_
        obtain ⟨⟨r10, s9⟩, hc8, hf⟩ := ks_bind hf
        try dsimp only at hf
        refine ks_calli (va_runV (As := []) (rest := []) ⟨hx, hb, hml, hown, hts⟩ (m_X1_isOuter l D cy ad En n0 hG hE o (ks_v11 (ks_v10 (j := 0) v4.2.1 (hE 10 rfl)).2.1 (ks_in_lt hi6) (hE 11 rfl)) hc8) (cwV 0 hts gX4_findLongest_X1_isOuter rfl rfl rfl (by decide +kernel) ⟨(Nat.le_of_ble_eq_true rfl), (Nat.le_of_ble_eq_true rfl)⟩) ⟨ks_U.blind, ks_recv hK hW (ks_v11 (ks_v10 (j := 0) v4.2.1 (hE 10 rfl)).2.1 (ks_in_lt hi6) (hE 11 rfl)) (ks_c11 cy ad o a4 (x5.toNatClampNeg) _) rfl, fun U hU hWm => ⟨rfl, hU0.now hS hW hWm.alike hU⟩⟩ rfl rfl hl.1 rfl (lv_room (Nat.le_of_ble_eq_true rfl)) dX4_findLongest_88 ⟨(Nat.le_of_ble_eq_true rfl), (Nat.le_of_ble_eq_true rfl)⟩) hS (fun H locs hW hS => ?_)
        refine lv_if_eq (tgt := 128) hx hb dX4_findLongest_91 (by decide) (fun c11 => ?_) (fun c11 => ?_)
        · rw [if_pos c11] at hf
          refine lv_iinc (v := (x5 + 1)) (lv' := [(5, .int (x5 + 1)), (7, .int (σ 3 0 0 ((σ 11 a4 ((x5.toNatClampNeg)) 1)).toNatClampNeg)), (6, .ref (ad 11 a4 (x5.toNatClampNeg))), (0, .ref (ad 0 0 0)), (1, .ref (ad 1 0 0)), (2, .int x2), (3, .int x3), (4, .ref (ad 8 a4 0))]) hx hb dX4_findLongest_128 hl (k := 7) rfl rfl (by decide) rfl (fun ls hl => ?_)
          refine lv_goto (tgt := 46) hx hb dX4_findLongest_131 (by decide) ?_
          exact hk46 _ _ _ _ _ v4 hf hW hS (lv_sub hl [3, 4, 5, 6, 7, 0] rfl)
        · rw [if_neg c11] at hf
          refine lv_aload_n hx hb dX4_findLongest_94 rfl (lv_at hl 2 rfl) ?_
          refine va_get (D := D) (ci := 4) (v := .ref (ad 4 0 0)) (C := RX4) (T := TX4) (N := 8) hx hb hts in_X4_findLongest_4 hown hK (ks_P1 hW (ks_v0 (i := 0) (j := 0) (hE 0 rfl)) (ks_c0 cy ad o 0 0 _)) 0 rfl rfl 3 (by decide) (hts (.fieldLink RX4 27 "SpinKernel" "longest" "[[I") (by decide +kernel)) (fun _ h => h) rfl dX4_findLongest_95 ?_
          refine lv_aload hx hb dX4_findLongest_98 (lv_at hl 6 rfl) ?_
          refine va_get (D := D) (ci := 3) (v := .int (s9 8 a4 0 1)) (C := RX3) (T := TX3) (N := 10) hx hb hts in_X4_findLongest_3 hown hK (ks_P1 hW v4 (ks_c8 cy ad o a4 0 _)) 0 rfl rfl 1 (by decide) (hts (.fieldLink RX4 230 "SpinKernel$Task" "core" "I") (by decide +kernel)) (fun _ h => h) rfl dX4_findLongest_100 ?_
          obtain ⟨hi12, hf⟩ := ks_guard hf
          refine ks_aald hx hb hK hW (ks_v4 (i := 0) (j := 0) (hE 4 rfl)) 6 (ks_c4 cy ad o 0 0 _) rfl rfl hi12 dX4_findLongest_103 ?_
          refine lv_iload hx hb dX4_findLongest_104 (lv_at hl 0 rfl) ?_
          refine lv_aload_n hx hb dX4_findLongest_106 rfl (lv_at hl 2 rfl) ?_
          refine va_get (D := D) (ci := 4) (v := .ref (ad 4 0 0)) (C := RX4) (T := TX4) (N := 8) hx hb hts in_X4_findLongest_4 hown hK (ks_P1 hW (ks_v0 (i := 0) (j := 0) (hE 0 rfl)) (ks_c0 cy ad o 0 0 _)) 0 rfl rfl 3 (by decide) (hts (.fieldLink RX4 27 "SpinKernel" "longest" "[[I") (by decide +kernel)) (fun _ h => h) rfl dX4_findLongest_107 ?_
          refine lv_aload hx hb dX4_findLongest_110 (lv_at hl 6 rfl) ?_
          refine va_get (D := D) (ci := 3) (v := .int (s9 8 a4 0 1)) (C := RX3) (T := TX3) (N := 10) hx hb hts in_X4_findLongest_3 hown hK (ks_P1 hW v4 (ks_c8 cy ad o a4 0 _)) 0 rfl rfl 1 (by decide) (hts (.fieldLink RX4 230 "SpinKernel$Task" "core" "I") (by decide +kernel)) (fun _ h => h) rfl dX4_findLongest_112 ?_
          obtain ⟨hi13, hf⟩ := ks_guard hf
          refine ks_aald hx hb hK hW (ks_v4 (i := 0) (j := 0) (hE 4 rfl)) 6 (ks_c4 cy ad o 0 0 _) rfl rfl hi13 dX4_findLongest_115 ?_
          refine lv_iload hx hb dX4_findLongest_116 (lv_at hl 0 rfl) ?_
          obtain ⟨hi14, hf⟩ := ks_guard hf
          refine ks_iald hx hb hK hW (ks_v5 (j := 0) (ks_in_lt hi13) (hE 5 rfl)) (ks_c5 cy ad o (((s9 8 a4 0 1)).toNatClampNeg) 0 _) hi14 dX4_findLongest_118 ?_
          refine lv_aload hx hb dX4_findLongest_119 (lv_at hl 1 rfl) ?_
          refine va_get (D := D) (ci := 1) (v := .int (s9 11 a4 ((x5.toNatClampNeg)) 2)) (C := RX1) (T := TX1) (N := 8) hx hb hts in_X4_findLongest_1 hown hK (ks_P1 hW (ks_v11 (ks_v10 (j := 0) v4.2.1 (hE 10 rfl)).2.1 (ks_in_lt hi6) (hE 11 rfl)) (ks_c11 cy ad o a4 (x5.toNatClampNeg) _)) 0 rfl rfl 2 (by decide) (hts (.fieldLink RX4 141 "SpinKernel$Request" "length" "I") (by decide +kernel)) (fun _ h => h) rfl dX4_findLongest_121 ?_
          refine va_mmax hx hb (hml.trans hl.1.symm) hown (hts (.methodLink RX4 164 Lib.Math.max.name) (by decide +kernel)) (hts (.static Lib.Math.max.name) (by decide +kernel)) (hts (.initialized "java/lang/Math") (by decide +kernel)) (hts (.code Lib.Math.max.name Lib.Math.max.code 2 (some .int)) (by decide +kernel)) (Nat.le_of_ble_eq_true rfl) (Nat.le_of_ble_eq_true rfl) (Nat.le_of_ble_eq_true rfl) (Nat.le_of_ble_eq_true rfl) dX4_findLongest_124 ?_
          obtain ⟨hi15, hf⟩ := ks_guard hf
          refine ks_iast hx hb hK hG hW hS (ks_v5 (j := 0) (ks_in_lt hi12) (hE 5 rfl)) (fun c => ks_c5 cy ad o (((s9 8 a4 0 1)).toNatClampNeg) 0 c) hi15 dX4_findLongest_127 (fun H locs hW hS => ?_)
          refine lv_iinc (v := (x5 + 1)) (lv' := [(5, .int (x5 + 1)), (7, .int (σ 3 0 0 ((σ 11 a4 ((x5.toNatClampNeg)) 1)).toNatClampNeg)), (6, .ref (ad 11 a4 (x5.toNatClampNeg))), (0, .ref (ad 0 0 0)), (1, .ref (ad 1 0 0)), (2, .int x2), (3, .int x3), (4, .ref (ad 8 a4 0))]) hx hb dX4_findLongest_128 hl (k := 7) rfl rfl (by decide) rfl (fun ls hl => ?_)
          refine lv_goto (tgt := 46) hx hb dX4_findLongest_131 (by decide) ?_
          exact hk46 _ _ _ _ _ v4 hf hW hS (lv_sub hl [3, 4, 5, 6, 7, 0] rfl)
set_option maxHeartbeats 4000000 in
set_option maxRecDepth 100000 in
theorem t_X4_findLongest_33 {p : Program} {l : Launch} {e : Env} {s : State} {m : MethodId} {args : Array Value} {below : List Frame} {meth : Method} {c : Code} {D : va_G} {cy : Nat → ClassId} {ad : ks_A} {En : Nat → Prop} {n0 : Nat → Prop} {σ0 : ks_S} {o : Int64} {N : Nat} {out : ks_S} (C : ks_M p s m args meth c D cy ad En (fun k => ks_g k = 0) n0 σ0 o wsX4_findLongest cX4_findLongest RX4 8 (none)) {k2 : ks_S → Int32 → Option ks_S} (hk2 : ∀ (σ : ks_S) (x1 : Int32), k2 σ x1 = some out → ∀ {H : Heap} {locs : List Loc} {ls : Array Slot}, ks_W D cy ad En σ o H → va_S (ks_F n0) s.heap H locs → lv_has ls 8 [(0, .ref (ad 0 0 0)), (1, .int x1)] → W p l e (ks_Rm 1 0 0 23) s m args below meth c H locs 0 0 (MQ below (ks_Qv D cy ad En n0 o out) args s 0 0 (ks_F n0)) (F0 m 2 ls [])) : ∀ (n : Nat) (σ : ks_S) (x2 : Int32) (x3 : Int32), f_X4_findLongest_33 N k2 n σ x2 x3 = some out → ∀ {H : Heap} {locs : List Loc} {ls : Array Slot}, ks_W D cy ad En σ o H → va_S (ks_F n0) s.heap H locs → lv_has ls 8 [(0, .ref (ad 0 0 0)), (1, .ref (ad 1 0 0)), (2, .int x2), (3, .int x3)] → W p l e (ks_Rm 1 0 0 23) s m args below meth c H locs 0 0 (MQ below (ks_Qv D cy ad En n0 o out) args s 0 0 (ks_F n0)) (F0 m 33 ls []) := by
  obtain ⟨hx, hb, hml, hr, hown, hts, hlocks, hG, hU0, hE⟩ := id C
  have hK := hU0.2.2
  intro n
  induction n with
  | zero => intro σ x2 x3; intro  hf; exact absurd hf (by simp [f_X4_findLongest_33])
  | succ n hk33 =>
    intro σ x2 x3  hf H locs ls hW hS hl
    rw [f_X4_findLongest_33] at hf
    refine lv_iload_n hx hb dX4_findLongest_33 rfl (lv_at hl 3 rfl) ?_
    refine lv_iload_n hx hb dX4_findLongest_34 rfl (lv_at hl 2 rfl) ?_
    refine lv_icmp_ge (tgt := 140) hx hb dX4_findLongest_35 (by decide) (fun c2 => ?_) (fun c2 => ?_)
    · rw [if_pos c2] at hf
      exact ks_vret C hf hW hS dX4_findLongest_140
    · rw [if_neg c2] at hf
      refine lv_aload_n hx hb dX4_findLongest_38 rfl (lv_at hl 1 rfl) ?_
      refine lv_iload_n hx hb dX4_findLongest_39 rfl (lv_at hl 3 rfl) ?_
      obtain ⟨hi3, hf⟩ := ks_guard hf
      refine ks_aald hx hb hK hW (ks_v1 (i := 0) (j := 0) (hE 1 rfl)) 3 (ks_c1 cy ad o 0 0 _) rfl rfl hi3 dX4_findLongest_40 ?_
      refine lv_astore (lv' := [(4, .ref (ad 8 (x3.toNatClampNeg) 0)), (0, .ref (ad 0 0 0)), (1, .ref (ad 1 0 0)), (2, .int x2), (3, .int x3)]) hx hb dX4_findLongest_41 hl (by decide) rfl (fun ls hl => ?_)
      refine lv_iconst (v := 0) hx hb dX4_findLongest_43 (by decide) ?_
      refine lv_istore (lv' := [(5, .int 0), (4, .ref (ad 8 (x3.toNatClampNeg) 0)), (0, .ref (ad 0 0 0)), (1, .ref (ad 1 0 0)), (2, .int x2), (3, .int x3)]) hx hb dX4_findLongest_44 hl (by decide) rfl (fun ls hl => ?_)
      exact t_X4_findLongest_46 C hk2 hk33 _ _ _ _ _ _ (ks_v8 (j := 0) (ks_in_lt hi3) (hE 8 rfl)) hf hW hS (lv_sub hl [2, 3, 4, 5, 1, 0] rfl)
set_option maxHeartbeats 4000000 in
set_option maxRecDepth 100000 in
theorem t_X4_findLongest_2 {p : Program} {l : Launch} {e : Env} {s : State} {m : MethodId} {args : Array Value} {below : List Frame} {meth : Method} {c : Code} {D : va_G} {cy : Nat → ClassId} {ad : ks_A} {En : Nat → Prop} {n0 : Nat → Prop} {σ0 : ks_S} {o : Int64} {N : Nat} {out : ks_S} (C : ks_M p s m args meth c D cy ad En (fun k => ks_g k = 0) n0 σ0 o wsX4_findLongest cX4_findLongest RX4 8 (none)) : ∀ (n : Nat) (σ : ks_S) (x1 : Int32), f_X4_findLongest_2 N n σ x1 = some out → ∀ {H : Heap} {locs : List Loc} {ls : Array Slot}, ks_W D cy ad En σ o H → va_S (ks_F n0) s.heap H locs → lv_has ls 8 [(0, .ref (ad 0 0 0)), (1, .int x1)] → W p l e (ks_Rm 1 0 0 23) s m args below meth c H locs 0 0 (MQ below (ks_Qv D cy ad En n0 o out) args s 0 0 (ks_F n0)) (F0 m 2 ls []) := by
  obtain ⟨hx, hb, hml, hr, hown, hts, hlocks, hG, hU0, hE⟩ := id C
  have hK := hU0.2.2
  intro n
  induction n with
  | zero => intro σ x1; intro  hf; exact absurd hf (by simp [f_X4_findLongest_2])
  | succ n hk2 =>
    intro σ x1  hf H locs ls hW hS hl
    rw [f_X4_findLongest_2] at hf
    refine lv_iload_n hx hb dX4_findLongest_2 rfl (lv_at hl 1 rfl) ?_
    refine lv_iconst (v := 4) hx hb dX4_findLongest_3 (by decide) ?_
    refine lv_icmp_ge (tgt := 23) hx hb dX4_findLongest_4 (by decide) (fun c1 => ?_) (fun c1 => ?_)
    · rw [if_pos c1] at hf
      refine lv_aload_n hx hb dX4_findLongest_23 rfl (lv_at hl 0 rfl) ?_
      refine va_get (D := D) (ci := 4) (v := .ref (ad 1 0 0)) (C := RX4) (T := TX4) (N := 8) hx hb hts in_X4_findLongest_4 hown hK (ks_P1 hW (ks_v0 (i := 0) (j := 0) (hE 0 rfl)) (ks_c0 cy ad o 0 0 _)) 0 rfl rfl 0 (by decide) (hts (.fieldLink RX4 11 "SpinKernel" "tasks" "[LSpinKernel$Task;") (by decide +kernel)) (fun _ h => h) rfl dX4_findLongest_24 ?_
      refine lv_astore_n (lv' := [(1, .ref (ad 1 0 0)), (0, .ref (ad 0 0 0))]) hx hb dX4_findLongest_27 rfl hl (by decide) rfl (fun ls hl => ?_)
      refine lv_aload_n hx hb dX4_findLongest_28 rfl (lv_at hl 0 rfl) ?_
      refine ks_alen hx hb hK hW (ks_v1 (i := 0) (j := 0) (hE 1 rfl)) 3 (ks_c1 cy ad o 0 0 _) rfl (v := 16) rfl dX4_findLongest_29 ?_
      refine lv_istore_n (lv' := [(2, .int 16), (1, .ref (ad 1 0 0)), (0, .ref (ad 0 0 0))]) hx hb dX4_findLongest_30 rfl hl (by decide) rfl (fun ls hl => ?_)
      refine lv_iconst (v := 0) hx hb dX4_findLongest_31 (by decide) ?_
      refine lv_istore_n (lv' := [(3, .int 0), (2, .int 16), (1, .ref (ad 1 0 0)), (0, .ref (ad 0 0 0))]) hx hb dX4_findLongest_32 rfl hl (by decide) rfl (fun ls hl => ?_)
      exact t_X4_findLongest_33 C hk2 _ _ _ _  hf hW hS (lv_sub hl [3, 2, 1, 0] rfl)
    · rw [if_neg c1] at hf
      refine lv_aload_n hx hb dX4_findLongest_7 rfl (lv_at hl 0 rfl) ?_
      refine va_get (D := D) (ci := 4) (v := .ref (ad 4 0 0)) (C := RX4) (T := TX4) (N := 8) hx hb hts in_X4_findLongest_4 hown hK (ks_P1 hW (ks_v0 (i := 0) (j := 0) (hE 0 rfl)) (ks_c0 cy ad o 0 0 _)) 0 rfl rfl 3 (by decide) (hts (.fieldLink RX4 27 "SpinKernel" "longest" "[[I") (by decide +kernel)) (fun _ h => h) rfl dX4_findLongest_8 ?_
      refine lv_iload_n hx hb dX4_findLongest_11 rfl (lv_at hl 1 rfl) ?_
      obtain ⟨hi16, hf⟩ := ks_guard hf
      refine ks_aald hx hb hK hW (ks_v4 (i := 0) (j := 0) (hE 4 rfl)) 6 (ks_c4 cy ad o 0 0 _) rfl rfl hi16 dX4_findLongest_12 ?_
      refine lv_iconst (v := 0) hx hb dX4_findLongest_13 (by decide) ?_
      obtain ⟨s18, hc17, hf⟩ := ks_bind hf
      try dsimp only at hf
      refine ks_callv (va_runS (As := [.ref (ad 5 (x1.toNatClampNeg) 0), .int 0]) (rest := []) ⟨hx, hb, hml, hown, hts⟩ (m_fill_5 l D cy ad En n0 hG (fun k h => h ▸ hE 5 rfl) o (ks_v5 (j := 0) (ks_in_lt hi16) (hE 5 rfl)) hc17) (va_cwS 2 hts gX4_findLongest_J7_fill_53178 rfl rfl rfl (by decide +kernel) ⟨(Nat.le_of_ble_eq_true rfl), (Nat.le_of_ble_eq_true rfl)⟩) ⟨ks_U.blind, fun U hU hWm => ⟨rfl, hU0.now hS hW hWm.alike hU⟩⟩ rfl rfl hl.1 rfl (lv_room (Nat.le_of_ble_eq_true rfl)) dX4_findLongest_14 ⟨(Nat.le_of_ble_eq_true rfl), (Nat.le_of_ble_eq_true rfl)⟩) hS (fun H locs hW hS => ?_)
      refine lv_iinc (v := (x1 + 1)) (lv' := [(1, .int (x1 + 1)), (0, .ref (ad 0 0 0))]) hx hb dX4_findLongest_17 hl (k := 1) rfl rfl (by decide) rfl (fun ls hl => ?_)
      refine lv_goto (tgt := 2) hx hb dX4_findLongest_20 (by decide) ?_
      exact hk2 _ _ hf hW hS (lv_sub hl [1, 0] rfl)
set_option maxHeartbeats 4000000 in
set_option maxRecDepth 100000 in
theorem t_X4_findLongest {p : Program} {l : Launch} {e : Env} {s : State} {m : MethodId} {args : Array Value} {below : List Frame} {meth : Method} {c : Code} {D : va_G} {cy : Nat → ClassId} {ad : ks_A} {En : Nat → Prop} {n0 : Nat → Prop} {σ0 : ks_S} {o : Int64} {N : Nat} {out : ks_S} (C : ks_M p s m args meth c D cy ad En (fun k => ks_g k = 0) n0 σ0 o wsX4_findLongest cX4_findLongest RX4 8 (none)) {σ : ks_S}   (hf : f_X4_findLongest N σ  = some out) {H : Heap} {locs : List Loc} {ls : Array Slot} (hW : ks_W D cy ad En σ o H) (hS : va_S (ks_F n0) s.heap H locs) (hl : lv_has ls 8 [(0, .ref (ad 0 0 0))]) : W p l e (ks_Rm 1 0 0 23) s m args below meth c H locs 0 0 (MQ below (ks_Qv D cy ad En n0 o out) args s 0 0 (ks_F n0)) (F0 m 0 ls []) := by
  obtain ⟨hx, hb, hml, hr, hown, hts, hlocks, hG, hU0, hE⟩ := id C
  have hK := hU0.2.2
  unfold f_X4_findLongest at hf
  refine lv_iconst (v := 0) hx hb dX4_findLongest_0 (by decide) ?_
  refine lv_istore_n (lv' := [(1, .int 0), (0, .ref (ad 0 0 0))]) hx hb dX4_findLongest_1 rfl hl (by decide) rfl (fun ls hl => ?_)
  exact t_X4_findLongest_2 C _ _ _  hf hW hS (lv_sub hl [1, 0] rfl)
set_option maxHeartbeats 4000000 in
set_option maxRecDepth 100000 in
theorem m_X4_findLongest (l : Launch) (D : va_G) (cy : Nat → ClassId) (ad : ks_A) (En : Nat → Prop) (n0 : Nat → Prop) (hG : ks_G ad En n0) (hE : ∀ k, ks_g k = 0 → En k) (o : Int64) {N : Nat} {σ : ks_S}   {out : ks_S} (hf : f_X4_findLongest N σ  = some out) : Met l yX4_findLongest wsX4_findLongest (ks_Rm 1 0 0 23) (va_Pc [.ref (ad 0 0 0)] (ks_U D cy ad En n0 σ o)) (ks_Qv D cy ad En n0 o out) 0 0 (ks_F n0) := by
  refine Met.ofW (cc := cX4_findLongest) (maxL := 8) (ret := none) (by decide) rfl ?_
  intro p e s m args below meth c s₁ B hml hv
  obtain ⟨rfl, hU⟩ := hv
  have hl := lv_entry ([.ref (ad 0 0 0)]) (n := 8) (Nat.le_of_ble_eq_true rfl)
  rw [lg_entry_eq]
  generalize (lg_sl ([.ref (ad 0 0 0)]) ++ List.replicate (8 - (lg_sl ([.ref (ad 0 0 0)])).length) Slot.unset).toArray = ls at hl ⊢
  exact t_X4_findLongest ⟨B.exec, B.bytes, hml, B.returns, findClass_of_methodNamed B.named, atoms_spec (ws := wsX4_findLongest) B.pre, B.notSynchronized, hG, hU, hE⟩  hf hU.2.1 va_S.rf hl

/-! SpinKernel.longestElsewhere(II)I -/
def f_X4_longestElsewhere_5 (N : Nat) : Nat → ks_S → Int32 → Int32 → Int32 → Int32 → Option (Int32 × ks_S)
  | 0, _, _, _, _, _ => none
  | n + 1, σ, x1, x2, x3, x4 => (if 4 ≤ x4 then some (x3, σ) else (if x4 = x1 then f_X4_longestElsewhere_5 N n σ x1 x2 x3 ((x4 + 1)) else (if ks_in x4 4 = true then (if ks_in x2 8 = true then f_X4_longestElsewhere_5 N n σ x1 x2 ((x3 + ((σ 5 ((x4.toNatClampNeg)) 0 x2.toNatClampNeg)))) ((x4 + 1)) else none) else none)))
def f_X4_longestElsewhere (N : Nat) (σ : ks_S) (x1 : Int32) (x2 : Int32) : Option (Int32 × ks_S) :=
  f_X4_longestElsewhere_5 N N σ x1 x2 0 0
theorem in_X4_longestElsewhere_4 : ∀ w ∈ wsX40, w ∈ wsX4_longestElsewhere := by decide +kernel
set_option maxHeartbeats 4000000 in
set_option maxRecDepth 100000 in
theorem t_X4_longestElsewhere_5 {p : Program} {l : Launch} {e : Env} {s : State} {m : MethodId} {args : Array Value} {below : List Frame} {meth : Method} {c : Code} {D : va_G} {cy : Nat → ClassId} {ad : ks_A} {En : Nat → Prop} {n0 : Nat → Prop} {σ0 : ks_S} {o : Int64} {N : Nat} {out : (Int32 × ks_S)} (C : ks_M p s m args meth c D cy ad En (fun k => ks_g k = 0) n0 σ0 o wsX4_longestElsewhere cX4_longestElsewhere RX4 5 (some .int)) : ∀ (n : Nat) (σ : ks_S) (x1 : Int32) (x2 : Int32) (x3 : Int32) (x4 : Int32), f_X4_longestElsewhere_5 N n σ x1 x2 x3 x4 = some out → ∀ {H : Heap} {locs : List Loc} {ls : Array Slot}, ks_W D cy ad En σ o H → va_S (ks_F n0) s.heap H locs → lv_has ls 5 [(0, .ref (ad 0 0 0)), (1, .int x1), (2, .int x2), (3, .int x3), (4, .int x4)] → W p l e (ks_Rm 0 0 0 0) s m args below meth c H locs 0 0 (MQ below (ks_Qi D cy ad En n0 o out) args s 0 0 (ks_F n0)) (F0 m 5 ls []) := by
  obtain ⟨hx, hb, hml, hr, hown, hts, hlocks, hG, hU0, hE⟩ := id C
  have hK := hU0.2.2
  intro n
  induction n with
  | zero => intro σ x1 x2 x3 x4; intro  hf; exact absurd hf (by simp [f_X4_longestElsewhere_5])
  | succ n hk5 =>
    intro σ x1 x2 x3 x4  hf H locs ls hW hS hl
    rw [f_X4_longestElsewhere_5] at hf
    refine lv_iload hx hb dX4_longestElsewhere_5 (lv_at hl 4 rfl) ?_
    refine lv_iconst (v := 4) hx hb dX4_longestElsewhere_7 (by decide) ?_
    refine lv_icmp_ge (tgt := 35) hx hb dX4_longestElsewhere_8 (by decide) (fun c1 => ?_) (fun c1 => ?_)
    · rw [if_pos c1] at hf
      refine lv_iload_n hx hb dX4_longestElsewhere_35 rfl (lv_at hl 3 rfl) ?_
      exact ks_iret C hf hW hS dX4_longestElsewhere_36
    · rw [if_neg c1] at hf
      refine lv_iload hx hb dX4_longestElsewhere_11 (lv_at hl 4 rfl) ?_
      refine lv_iload_n hx hb dX4_longestElsewhere_13 rfl (lv_at hl 1 rfl) ?_
      refine lv_icmp_eq (tgt := 29) hx hb dX4_longestElsewhere_14 (by decide) (fun c2 => ?_) (fun c2 => ?_)
      · rw [if_pos c2] at hf
        refine lv_iinc (v := (x4 + 1)) (lv' := [(4, .int (x4 + 1)), (0, .ref (ad 0 0 0)), (1, .int x1), (2, .int x2), (3, .int x3)]) hx hb dX4_longestElsewhere_29 hl (k := 4) rfl rfl (by decide) rfl (fun ls hl => ?_)
        refine lv_goto (tgt := 5) hx hb dX4_longestElsewhere_32 (by decide) ?_
        exact hk5 _ _ _ _ _ hf hW hS (lv_sub hl [1, 2, 3, 4, 0] rfl)
      · rw [if_neg c2] at hf
        refine lv_iload_n hx hb dX4_longestElsewhere_17 rfl (lv_at hl 3 rfl) ?_
        refine lv_aload_n hx hb dX4_longestElsewhere_18 rfl (lv_at hl 0 rfl) ?_
        refine va_get (D := D) (ci := 4) (v := .ref (ad 4 0 0)) (C := RX4) (T := TX4) (N := 8) hx hb hts in_X4_longestElsewhere_4 hown hK (ks_P1 hW (ks_v0 (i := 0) (j := 0) (hE 0 rfl)) (ks_c0 cy ad o 0 0 _)) 0 rfl rfl 3 (by decide) (hts (.fieldLink RX4 27 "SpinKernel" "longest" "[[I") (by decide +kernel)) (fun _ h => h) rfl dX4_longestElsewhere_19 ?_
        refine lv_iload hx hb dX4_longestElsewhere_22 (lv_at hl 4 rfl) ?_
        obtain ⟨hi3, hf⟩ := ks_guard hf
        refine ks_aald hx hb hK hW (ks_v4 (i := 0) (j := 0) (hE 4 rfl)) 6 (ks_c4 cy ad o 0 0 _) rfl rfl hi3 dX4_longestElsewhere_24 ?_
        refine lv_iload_n hx hb dX4_longestElsewhere_25 rfl (lv_at hl 2 rfl) ?_
        obtain ⟨hi4, hf⟩ := ks_guard hf
        refine ks_iald hx hb hK hW (ks_v5 (j := 0) (ks_in_lt hi3) (hE 5 rfl)) (ks_c5 cy ad o (x4.toNatClampNeg) 0 _) hi4 dX4_longestElsewhere_26 ?_
        refine lv_iadd hx hb dX4_longestElsewhere_27 ?_
        refine lv_istore_n (lv' := [(3, .int (x3 + ((σ 5 ((x4.toNatClampNeg)) 0 x2.toNatClampNeg)))), (0, .ref (ad 0 0 0)), (1, .int x1), (2, .int x2), (4, .int x4)]) hx hb dX4_longestElsewhere_28 rfl hl (by decide) rfl (fun ls hl => ?_)
        refine lv_iinc (v := (x4 + 1)) (lv' := [(4, .int (x4 + 1)), (3, .int (x3 + ((σ 5 ((x4.toNatClampNeg)) 0 x2.toNatClampNeg)))), (0, .ref (ad 0 0 0)), (1, .int x1), (2, .int x2)]) hx hb dX4_longestElsewhere_29 hl (k := 4) rfl rfl (by decide) rfl (fun ls hl => ?_)
        refine lv_goto (tgt := 5) hx hb dX4_longestElsewhere_32 (by decide) ?_
        exact hk5 _ _ _ _ _ hf hW hS (lv_sub hl [2, 3, 4, 1, 0] rfl)
set_option maxHeartbeats 4000000 in
set_option maxRecDepth 100000 in
theorem t_X4_longestElsewhere {p : Program} {l : Launch} {e : Env} {s : State} {m : MethodId} {args : Array Value} {below : List Frame} {meth : Method} {c : Code} {D : va_G} {cy : Nat → ClassId} {ad : ks_A} {En : Nat → Prop} {n0 : Nat → Prop} {σ0 : ks_S} {o : Int64} {N : Nat} {out : (Int32 × ks_S)} (C : ks_M p s m args meth c D cy ad En (fun k => ks_g k = 0) n0 σ0 o wsX4_longestElsewhere cX4_longestElsewhere RX4 5 (some .int)) {σ : ks_S} {x1 : Int32} {x2 : Int32}  (hf : f_X4_longestElsewhere N σ x1 x2 = some out) {H : Heap} {locs : List Loc} {ls : Array Slot} (hW : ks_W D cy ad En σ o H) (hS : va_S (ks_F n0) s.heap H locs) (hl : lv_has ls 5 [(0, .ref (ad 0 0 0)), (1, .int x1), (2, .int x2)]) : W p l e (ks_Rm 0 0 0 0) s m args below meth c H locs 0 0 (MQ below (ks_Qi D cy ad En n0 o out) args s 0 0 (ks_F n0)) (F0 m 0 ls []) := by
  obtain ⟨hx, hb, hml, hr, hown, hts, hlocks, hG, hU0, hE⟩ := id C
  have hK := hU0.2.2
  unfold f_X4_longestElsewhere at hf
  refine lv_iconst (v := 0) hx hb dX4_longestElsewhere_0 (by decide) ?_
  refine lv_istore_n (lv' := [(3, .int 0), (0, .ref (ad 0 0 0)), (1, .int x1), (2, .int x2)]) hx hb dX4_longestElsewhere_1 rfl hl (by decide) rfl (fun ls hl => ?_)
  refine lv_iconst (v := 0) hx hb dX4_longestElsewhere_2 (by decide) ?_
  refine lv_istore (lv' := [(4, .int 0), (3, .int 0), (0, .ref (ad 0 0 0)), (1, .int x1), (2, .int x2)]) hx hb dX4_longestElsewhere_3 hl (by decide) rfl (fun ls hl => ?_)
  exact t_X4_longestElsewhere_5 C _ _ _ _ _ _  hf hW hS (lv_sub hl [2, 3, 4, 1, 0] rfl)
set_option maxHeartbeats 4000000 in
set_option maxRecDepth 100000 in
theorem m_X4_longestElsewhere (l : Launch) (D : va_G) (cy : Nat → ClassId) (ad : ks_A) (En : Nat → Prop) (n0 : Nat → Prop) (hG : ks_G ad En n0) (hE : ∀ k, ks_g k = 0 → En k) (o : Int64) {N : Nat} {σ : ks_S} {x1 : Int32} {x2 : Int32}  {out : (Int32 × ks_S)} (hf : f_X4_longestElsewhere N σ x1 x2 = some out) : Met l yX4_longestElsewhere wsX4_longestElsewhere (ks_Rm 0 0 0 0) (va_Pc [.ref (ad 0 0 0), .int x1, .int x2] (ks_U D cy ad En n0 σ o)) (ks_Qi D cy ad En n0 o out) 0 0 (ks_F n0) := by
  refine Met.ofW (cc := cX4_longestElsewhere) (maxL := 5) (ret := some .int) (by decide) rfl ?_
  intro p e s m args below meth c s₁ B hml hv
  obtain ⟨rfl, hU⟩ := hv
  have hl := lv_entry ([.ref (ad 0 0 0), .int x1, .int x2]) (n := 5) (Nat.le_of_ble_eq_true rfl)
  rw [lg_entry_eq]
  generalize (lg_sl ([.ref (ad 0 0 0), .int x1, .int x2]) ++ List.replicate (5 - (lg_sl ([.ref (ad 0 0 0), .int x1, .int x2])).length) Slot.unset).toArray = ls at hl ⊢
  exact t_X4_longestElsewhere ⟨B.exec, B.bytes, hml, B.returns, findClass_of_methodNamed B.named, atoms_spec (ws := wsX4_longestElsewhere) B.pre, B.notSynchronized, hG, hU, hE⟩  hf hU.2.1 va_S.rf hl

/-! SpinKernel.inflate(LSpinKernel$Task;)V -/
def f_X4_inflate_10 (N : Nat) : Nat → ks_S → Nat → Int32 → Option ks_S
  | 0, _, _, _ => none
  | n + 1, σ, a1, x2 => (if ((σ 8 a1 0 7)) ≤ x2 then some σ else (if ks_in x2 6 = true then ((f_X1_isOuter σ a1 ((x2.toNatClampNeg))).bind fun (r5, s4) => (if r5 = 0 then f_X4_inflate_10 N n s4 a1 ((x2 + 1)) else (if ks_in ((s4 11 a1 ((x2.toNatClampNeg)) 1)) 8 = true then ((f_X4_longestElsewhere N s4 ((s4 8 a1 0 1)) ((s4 3 0 0 ((s4 11 a1 ((x2.toNatClampNeg)) 1)).toNatClampNeg))).bind fun (r10, s9) => f_X4_inflate_10 N n ((ks_up (ks_up s9 11 a1 ((x2.toNatClampNeg)) 4 r10) 8 a1 0 6 ((((((ks_up s9 11 a1 ((x2.toNatClampNeg)) 4 r10)) 8 a1 0 6)) + ((((((ks_up s9 11 a1 ((x2.toNatClampNeg)) 4 r10)) 11 a1 ((x2.toNatClampNeg)) 2)) + ((((ks_up s9 11 a1 ((x2.toNatClampNeg)) 4 r10)) 11 a1 ((x2.toNatClampNeg)) 4)))))))) a1 ((x2 + 1))) else none))) else none))
def f_X4_inflate (N : Nat) (σ : ks_S) (a1 : Nat) : Option ks_S :=
  f_X4_inflate_10 N N ((ks_up σ 8 a1 0 6 ((σ 8 a1 0 5)))) a1 0
theorem in_X4_inflate_1 : ∀ w ∈ wsX10, w ∈ wsX4_inflate := by decide +kernel
theorem in_X4_inflate_3 : ∀ w ∈ wsX30, w ∈ wsX4_inflate := by decide +kernel
theorem in_X4_inflate_4 : ∀ w ∈ wsX40, w ∈ wsX4_inflate := by decide +kernel
set_option maxHeartbeats 4000000 in
set_option maxRecDepth 100000 in
theorem t_X4_inflate_10 {p : Program} {l : Launch} {e : Env} {s : State} {m : MethodId} {args : Array Value} {below : List Frame} {meth : Method} {c : Code} {D : va_G} {cy : Nat → ClassId} {ad : ks_A} {En : Nat → Prop} {n0 : Nat → Prop} {σ0 : ks_S} {o : Int64} {N : Nat} {out : ks_S} (C : ks_M p s m args meth c D cy ad En (fun k => ks_g k = 0) n0 σ0 o wsX4_inflate cX4_inflate RX4 4 (none)) : ∀ (n : Nat) (σ : ks_S) (a1 : Nat) (x2 : Int32), ks_v En 8 a1 0 → f_X4_inflate_10 N n σ a1 x2 = some out → ∀ {H : Heap} {locs : List Loc} {ls : Array Slot}, ks_W D cy ad En σ o H → va_S (ks_F n0) s.heap H locs → lv_has ls 4 [(0, .ref (ad 0 0 0)), (1, .ref (ad 8 a1 0)), (2, .int x2)] → W p l e (ks_Rm 1 0 0 24) s m args below meth c H locs 0 0 (MQ below (ks_Qv D cy ad En n0 o out) args s 0 0 (ks_F n0)) (F0 m 10 ls []) := by
  obtain ⟨hx, hb, hml, hr, hown, hts, hlocks, hG, hU0, hE⟩ := id C
  have hK := hU0.2.2
  intro n
  induction n with
  | zero => intro σ a1 x2; intro v1 hf; exact absurd hf (by simp [f_X4_inflate_10])
  | succ n hk10 =>
    intro σ a1 x2 v1 hf H locs ls hW hS hl
    rw [f_X4_inflate_10] at hf
    refine lv_iload_n hx hb dX4_inflate_10 rfl (lv_at hl 2 rfl) ?_
    refine lv_aload_n hx hb dX4_inflate_11 rfl (lv_at hl 1 rfl) ?_
    refine va_get (D := D) (ci := 3) (v := .int (σ 8 a1 0 7)) (C := RX3) (T := TX3) (N := 10) hx hb hts in_X4_inflate_3 hown hK (ks_P1 hW v1 (ks_c8 cy ad o a1 0 _)) 0 rfl rfl 7 (by decide) (hts (.fieldLink RX4 79 "SpinKernel$Task" "count" "I") (by decide +kernel)) (fun _ h => h) rfl dX4_inflate_12 ?_
    refine lv_icmp_ge (tgt := 77) hx hb dX4_inflate_15 (by decide) (fun c1 => ?_) (fun c1 => ?_)
    · rw [if_pos c1] at hf
      exact ks_vret C hf hW hS dX4_inflate_77
    · rw [if_neg c1] at hf
      refine lv_aload_n hx hb dX4_inflate_18 rfl (lv_at hl 1 rfl) ?_
      refine va_get (D := D) (ci := 3) (v := .ref (ad 10 a1 0)) (C := RX3) (T := TX3) (N := 10) hx hb hts in_X4_inflate_3 hown hK (ks_P1 hW v1 (ks_c8 cy ad o a1 0 _)) 0 rfl rfl 8 (by decide) (hts (.fieldLink RX4 199 "SpinKernel$Task" "requests" "[LSpinKernel$Request;") (by decide +kernel)) (fun _ h => h) rfl dX4_inflate_19 ?_
      refine lv_iload_n hx hb dX4_inflate_22 rfl (lv_at hl 2 rfl) ?_
      obtain ⟨hi2, hf⟩ := ks_guard hf
      refine ks_aald hx hb hK hW (ks_v10 (j := 0) v1.2.1 (hE 10 rfl)) 5 (ks_c10 cy ad o a1 0 _) rfl rfl hi2 dX4_inflate_23 ?_
      refine lv_astore_n (lv' := [(3, .ref (ad 11 a1 (x2.toNatClampNeg))), (0, .ref (ad 0 0 0)), (1, .ref (ad 8 a1 0)), (2, .int x2)]) hx hb dX4_inflate_24 rfl hl (by decide) rfl (fun ls hl => ?_)
      refine lv_aload_n hx hb dX4_inflate_25 rfl (lv_at hl 0 rfl) ?_
      obtain ⟨⟨r5, s4⟩, hc3, hf⟩ := ks_bind hf
      try dsimp only at hf
      refine ks_calli (va_runV (As := []) (rest := []) ⟨hx, hb, hml, hown, hts⟩ (m_X1_isOuter l D cy ad En n0 hG hE o (ks_v11 (ks_v10 (j := 0) v1.2.1 (hE 10 rfl)).2.1 (ks_in_lt hi2) (hE 11 rfl)) hc3) (cwV 0 hts gX4_inflate_X1_isOuter rfl rfl rfl (by decide +kernel) ⟨(Nat.le_of_ble_eq_true rfl), (Nat.le_of_ble_eq_true rfl)⟩) ⟨ks_U.blind, ks_recv hK hW (ks_v11 (ks_v10 (j := 0) v1.2.1 (hE 10 rfl)).2.1 (ks_in_lt hi2) (hE 11 rfl)) (ks_c11 cy ad o a1 (x2.toNatClampNeg) _) rfl, fun U hU hWm => ⟨rfl, hU0.now hS hW hWm.alike hU⟩⟩ rfl rfl hl.1 rfl (lv_room (Nat.le_of_ble_eq_true rfl)) dX4_inflate_26 ⟨(Nat.le_of_ble_eq_true rfl), (Nat.le_of_ble_eq_true rfl)⟩) hS (fun H locs hW hS => ?_)
      refine lv_if_eq (tgt := 71) hx hb dX4_inflate_29 (by decide) (fun c6 => ?_) (fun c6 => ?_)
      · rw [if_pos c6] at hf
        refine lv_iinc (v := (x2 + 1)) (lv' := [(2, .int (x2 + 1)), (3, .ref (ad 11 a1 (x2.toNatClampNeg))), (0, .ref (ad 0 0 0)), (1, .ref (ad 8 a1 0))]) hx hb dX4_inflate_71 hl (k := 3) rfl rfl (by decide) rfl (fun ls hl => ?_)
        refine lv_goto (tgt := 10) hx hb dX4_inflate_74 (by decide) ?_
        exact hk10 _ _ _ v1 hf hW hS (lv_sub hl [2, 3, 0] rfl)
      · rw [if_neg c6] at hf
        refine lv_aload_n hx hb dX4_inflate_32 rfl (lv_at hl 0 rfl) ?_
        refine lv_aload_n hx hb dX4_inflate_33 rfl (lv_at hl 1 rfl) ?_
        refine lv_aload_n hx hb dX4_inflate_34 rfl (lv_at hl 2 rfl) ?_
        refine va_get (D := D) (ci := 3) (v := .int (s4 8 a1 0 1)) (C := RX3) (T := TX3) (N := 10) hx hb hts in_X4_inflate_3 hown hK (ks_P1 hW v1 (ks_c8 cy ad o a1 0 _)) 0 rfl rfl 1 (by decide) (hts (.fieldLink RX4 230 "SpinKernel$Task" "core" "I") (by decide +kernel)) (fun _ h => h) rfl dX4_inflate_35 ?_
        refine lv_aload_n hx hb dX4_inflate_38 rfl (lv_at hl 1 rfl) ?_
        refine va_get (D := D) (ci := 4) (v := .ref (ad 3 0 0)) (C := RX4) (T := TX4) (N := 8) hx hb hts in_X4_inflate_4 hown hK (ks_P1 hW (ks_v0 (i := 0) (j := 0) (hE 0 rfl)) (ks_c0 cy ad o 0 0 _)) 0 rfl rfl 2 (by decide) (hts (.fieldLink RX4 21 "SpinKernel" "leastOfGroup" "[I") (by decide +kernel)) (fun _ h => h) rfl dX4_inflate_39 ?_
        refine lv_aload_n hx hb dX4_inflate_42 rfl (lv_at hl 0 rfl) ?_
        refine va_get (D := D) (ci := 1) (v := .int (s4 11 a1 ((x2.toNatClampNeg)) 1)) (C := RX1) (T := TX1) (N := 8) hx hb hts in_X4_inflate_1 hown hK (ks_P1 hW (ks_v11 (ks_v10 (j := 0) v1.2.1 (hE 10 rfl)).2.1 (ks_in_lt hi2) (hE 11 rfl)) (ks_c11 cy ad o a1 (x2.toNatClampNeg) _)) 0 rfl rfl 1 (by decide) (hts (.fieldLink RX4 220 "SpinKernel$Request" "lock" "I") (by decide +kernel)) (fun _ h => h) rfl dX4_inflate_43 ?_
        obtain ⟨hi7, hf⟩ := ks_guard hf
        refine ks_iald hx hb hK hW (ks_v3 (i := 0) (j := 0) (hE 3 rfl)) (ks_c3 cy ad o 0 0 _) hi7 dX4_inflate_46 ?_
        obtain ⟨⟨r10, s9⟩, hc8, hf⟩ := ks_bind hf
        try dsimp only at hf
        refine ks_calli (va_runV (As := [.int (s4 8 a1 0 1), .int (s4 3 0 0 ((s4 11 a1 ((x2.toNatClampNeg)) 1)).toNatClampNeg)]) (rest := [.ref (ad 11 a1 (x2.toNatClampNeg))]) ⟨hx, hb, hml, hown, hts⟩ (m_X4_longestElsewhere l D cy ad En n0 hG hE o hc8) (cwV 2 hts gX4_inflate_X4_longestElsewhere rfl rfl rfl (by decide +kernel) ⟨(Nat.le_of_ble_eq_true rfl), (Nat.le_of_ble_eq_true rfl)⟩) ⟨ks_U.blind, ks_recv hK hW (ks_v0 (i := 0) (j := 0) (hE 0 rfl)) (ks_c0 cy ad o 0 0 _) rfl, fun U hU hWm => ⟨rfl, hU0.now hS hW hWm.alike hU⟩⟩ rfl rfl hl.1 rfl (lv_room (Nat.le_of_ble_eq_true rfl)) dX4_inflate_47 ⟨(Nat.le_of_ble_eq_true rfl), (Nat.le_of_ble_eq_true rfl)⟩) hS (fun H locs hW hS => ?_)
        refine ks_put (D := D) (ci := 1) (C := RX1) (T := TX1) (N := 8) hx hb hts in_X4_inflate_1 tyX1 tyX1_ok nmX1 hown hK hG hW hS (ks_v11 (ks_v10 (j := 0) v1.2.1 (hE 10 rfl)).2.1 (ks_in_lt hi2) (hE 11 rfl)) 4 (v := r10) (ks_c11 cy ad o a1 (x2.toNatClampNeg) _) (ks_c11s4 cy ad o a1 (x2.toNatClampNeg) _ _) rfl (by decide) (hts (.fieldLink RX4 94 "SpinKernel$Request" "spinBound" "I") (by decide +kernel)) rfl (ty := .int) (by decide +kernel) rfl rfl (Nat.le_of_ble_eq_true rfl) dX4_inflate_50 (fun H locs hW hS => ?_)
        refine lv_aload_n hx hb dX4_inflate_53 rfl (lv_at hl 2 rfl) ?_
        refine lv_dup hx hb dX4_inflate_54 rfl ?_
        refine va_get (D := D) (ci := 3) (v := .int (((ks_up s9 11 a1 ((x2.toNatClampNeg)) 4 r10)) 8 a1 0 6)) (C := RX3) (T := TX3) (N := 10) hx hb hts in_X4_inflate_3 hown hK (ks_P1 hW v1 (ks_c8 cy ad o a1 0 _)) 0 rfl rfl 6 (by decide) (hts (.fieldLink RX4 99 "SpinKernel$Task" "inflated" "I") (by decide +kernel)) (fun _ h => h) rfl dX4_inflate_55 ?_
        refine lv_aload_n hx hb dX4_inflate_58 rfl (lv_at hl 0 rfl) ?_
        refine va_get (D := D) (ci := 1) (v := .int (((ks_up s9 11 a1 ((x2.toNatClampNeg)) 4 r10)) 11 a1 ((x2.toNatClampNeg)) 2)) (C := RX1) (T := TX1) (N := 8) hx hb hts in_X4_inflate_1 hown hK (ks_P1 hW (ks_v11 (ks_v10 (j := 0) v1.2.1 (hE 10 rfl)).2.1 (ks_in_lt hi2) (hE 11 rfl)) (ks_c11 cy ad o a1 (x2.toNatClampNeg) _)) 0 rfl rfl 2 (by decide) (hts (.fieldLink RX4 141 "SpinKernel$Request" "length" "I") (by decide +kernel)) (fun _ h => h) rfl dX4_inflate_59 ?_
        refine lv_aload_n hx hb dX4_inflate_62 rfl (lv_at hl 0 rfl) ?_
        refine va_get (D := D) (ci := 1) (v := .int (((ks_up s9 11 a1 ((x2.toNatClampNeg)) 4 r10)) 11 a1 ((x2.toNatClampNeg)) 4)) (C := RX1) (T := TX1) (N := 8) hx hb hts in_X4_inflate_1 hown hK (ks_P1 hW (ks_v11 (ks_v10 (j := 0) v1.2.1 (hE 10 rfl)).2.1 (ks_in_lt hi2) (hE 11 rfl)) (ks_c11 cy ad o a1 (x2.toNatClampNeg) _)) 0 rfl rfl 4 (by decide) (hts (.fieldLink RX4 94 "SpinKernel$Request" "spinBound" "I") (by decide +kernel)) (fun _ h => h) rfl dX4_inflate_63 ?_
        refine lv_iadd hx hb dX4_inflate_66 ?_
        refine lv_iadd hx hb dX4_inflate_67 ?_
        refine ks_put (D := D) (ci := 3) (C := RX3) (T := TX3) (N := 10) hx hb hts in_X4_inflate_3 tyX3 tyX3_ok nmX3 hown hK hG hW hS v1 6 (v := (((((ks_up s9 11 a1 ((x2.toNatClampNeg)) 4 r10)) 8 a1 0 6)) + ((((((ks_up s9 11 a1 ((x2.toNatClampNeg)) 4 r10)) 11 a1 ((x2.toNatClampNeg)) 2)) + ((((ks_up s9 11 a1 ((x2.toNatClampNeg)) 4 r10)) 11 a1 ((x2.toNatClampNeg)) 4)))))) (ks_c8 cy ad o a1 0 _) (ks_c8s6 cy ad o a1 0 _ _) rfl (by decide) (hts (.fieldLink RX4 99 "SpinKernel$Task" "inflated" "I") (by decide +kernel)) rfl (ty := .int) (by decide +kernel) rfl rfl (Nat.le_of_ble_eq_true rfl) dX4_inflate_68 (fun H locs hW hS => ?_)
        refine lv_iinc (v := (x2 + 1)) (lv' := [(2, .int (x2 + 1)), (3, .ref (ad 11 a1 (x2.toNatClampNeg))), (0, .ref (ad 0 0 0)), (1, .ref (ad 8 a1 0))]) hx hb dX4_inflate_71 hl (k := 3) rfl rfl (by decide) rfl (fun ls hl => ?_)
        refine lv_goto (tgt := 10) hx hb dX4_inflate_74 (by decide) ?_
        exact hk10 _ _ _ v1 hf hW hS (lv_sub hl [2, 3, 0] rfl)
set_option maxHeartbeats 4000000 in
set_option maxRecDepth 100000 in
theorem t_X4_inflate {p : Program} {l : Launch} {e : Env} {s : State} {m : MethodId} {args : Array Value} {below : List Frame} {meth : Method} {c : Code} {D : va_G} {cy : Nat → ClassId} {ad : ks_A} {En : Nat → Prop} {n0 : Nat → Prop} {σ0 : ks_S} {o : Int64} {N : Nat} {out : ks_S} (C : ks_M p s m args meth c D cy ad En (fun k => ks_g k = 0) n0 σ0 o wsX4_inflate cX4_inflate RX4 4 (none)) {σ : ks_S} {a1 : Nat} (v1 : ks_v En 8 a1 0) (hf : f_X4_inflate N σ a1 = some out) {H : Heap} {locs : List Loc} {ls : Array Slot} (hW : ks_W D cy ad En σ o H) (hS : va_S (ks_F n0) s.heap H locs) (hl : lv_has ls 4 [(0, .ref (ad 0 0 0)), (1, .ref (ad 8 a1 0))]) : W p l e (ks_Rm 1 0 0 24) s m args below meth c H locs 0 0 (MQ below (ks_Qv D cy ad En n0 o out) args s 0 0 (ks_F n0)) (F0 m 0 ls []) := by
  obtain ⟨hx, hb, hml, hr, hown, hts, hlocks, hG, hU0, hE⟩ := id C
  have hK := hU0.2.2
  unfold f_X4_inflate at hf
  refine lv_aload_n hx hb dX4_inflate_0 rfl (lv_at hl 1 rfl) ?_
  refine lv_aload_n hx hb dX4_inflate_1 rfl (lv_at hl 1 rfl) ?_
  refine va_get (D := D) (ci := 3) (v := .int (σ 8 a1 0 5)) (C := RX3) (T := TX3) (N := 10) hx hb hts in_X4_inflate_3 hown hK (ks_P1 hW v1 (ks_c8 cy ad o a1 0 _)) 0 rfl rfl 5 (by decide) (hts (.fieldLink RX4 233 "SpinKernel$Task" "work" "I") (by decide +kernel)) (fun _ h => h) rfl dX4_inflate_2 ?_
  refine ks_put (D := D) (ci := 3) (C := RX3) (T := TX3) (N := 10) hx hb hts in_X4_inflate_3 tyX3 tyX3_ok nmX3 hown hK hG hW hS v1 6 (v := (σ 8 a1 0 5)) (ks_c8 cy ad o a1 0 _) (ks_c8s6 cy ad o a1 0 _ _) rfl (by decide) (hts (.fieldLink RX4 99 "SpinKernel$Task" "inflated" "I") (by decide +kernel)) rfl (ty := .int) (by decide +kernel) rfl rfl (Nat.le_of_ble_eq_true rfl) dX4_inflate_5 (fun H locs hW hS => ?_)
  refine lv_iconst (v := 0) hx hb dX4_inflate_8 (by decide) ?_
  refine lv_istore_n (lv' := [(2, .int 0), (0, .ref (ad 0 0 0)), (1, .ref (ad 8 a1 0))]) hx hb dX4_inflate_9 rfl hl (by decide) rfl (fun ls hl => ?_)
  exact t_X4_inflate_10 C _ _ _ _ v1 hf hW hS (lv_sub hl [1, 2, 0] rfl)
set_option maxHeartbeats 4000000 in
set_option maxRecDepth 100000 in
theorem m_X4_inflate (l : Launch) (D : va_G) (cy : Nat → ClassId) (ad : ks_A) (En : Nat → Prop) (n0 : Nat → Prop) (hG : ks_G ad En n0) (hE : ∀ k, ks_g k = 0 → En k) (o : Int64) {N : Nat} {σ : ks_S} {a1 : Nat} (v1 : ks_v En 8 a1 0) {out : ks_S} (hf : f_X4_inflate N σ a1 = some out) : Met l yX4_inflate wsX4_inflate (ks_Rm 1 0 0 24) (va_Pc [.ref (ad 0 0 0), .ref (ad 8 a1 0)] (ks_U D cy ad En n0 σ o)) (ks_Qv D cy ad En n0 o out) 0 0 (ks_F n0) := by
  refine Met.ofW (cc := cX4_inflate) (maxL := 4) (ret := none) (by decide) rfl ?_
  intro p e s m args below meth c s₁ B hml hv
  obtain ⟨rfl, hU⟩ := hv
  have hl := lv_entry ([.ref (ad 0 0 0), .ref (ad 8 a1 0)]) (n := 4) (Nat.le_of_ble_eq_true rfl)
  rw [lg_entry_eq]
  generalize (lg_sl ([.ref (ad 0 0 0), .ref (ad 8 a1 0)]) ++ List.replicate (4 - (lg_sl ([.ref (ad 0 0 0), .ref (ad 8 a1 0)])).length) Slot.unset).toArray = ls at hl ⊢
  exact t_X4_inflate ⟨B.exec, B.bytes, hml, B.returns, findClass_of_methodNamed B.named, atoms_spec (ws := wsX4_inflate) B.pre, B.notSynchronized, hG, hU, hE⟩ v1 hf hU.2.1 va_S.rf hl

/-! SpinKernel.measure()V -/
def f_X4_measure_18 (N : Nat) : Nat → ks_S → Int32 → Int32 → Option ks_S
  | 0, _, _, _ => none
  | n + 1, σ, x2, x3 => (if x2 ≤ x3 then some σ else (if ks_in x3 16 = true then (if ((σ 8 ((x3.toNatClampNeg)) 0 0)) = 0 then f_X4_measure_18 N n σ x2 ((x3 + 1)) else ((f_X4_inflate N σ ((x3.toNatClampNeg))).bind fun s11 => f_X4_measure_18 N n s11 x2 ((x3 + 1)))) else none))
def f_X4_measure (N : Nat) (σ : ks_S)  : Option ks_S :=
  ((f_X4_formGroups N σ).bind fun s2 => ((f_X4_findLongest N s2).bind fun s5 => f_X4_measure_18 N N s5 16 0))
theorem in_X4_measure_3 : ∀ w ∈ wsX30, w ∈ wsX4_measure := by decide +kernel
theorem in_X4_measure_4 : ∀ w ∈ wsX40, w ∈ wsX4_measure := by decide +kernel
set_option maxHeartbeats 4000000 in
set_option maxRecDepth 100000 in
theorem t_X4_measure_18 {p : Program} {l : Launch} {e : Env} {s : State} {m : MethodId} {args : Array Value} {below : List Frame} {meth : Method} {c : Code} {D : va_G} {cy : Nat → ClassId} {ad : ks_A} {En : Nat → Prop} {n0 : Nat → Prop} {σ0 : ks_S} {o : Int64} {N : Nat} {out : ks_S} (C : ks_M p s m args meth c D cy ad En (fun k => ks_g k = 0) n0 σ0 o wsX4_measure cX4_measure RX4 5 (none)) : ∀ (n : Nat) (σ : ks_S) (x2 : Int32) (x3 : Int32), f_X4_measure_18 N n σ x2 x3 = some out → ∀ {H : Heap} {locs : List Loc} {ls : Array Slot}, ks_W D cy ad En σ o H → va_S (ks_F n0) s.heap H locs → lv_has ls 5 [(0, .ref (ad 0 0 0)), (1, .ref (ad 1 0 0)), (2, .int x2), (3, .int x3)] → W p l e (ks_Rm 3 0 0 64) s m args below meth c H locs 0 0 (MQ below (ks_Qv D cy ad En n0 o out) args s 0 0 (ks_F n0)) (F0 m 18 ls []) := by
  obtain ⟨hx, hb, hml, hr, hown, hts, hlocks, hG, hU0, hE⟩ := id C
  have hK := hU0.2.2
  intro n
  induction n with
  | zero => intro σ x2 x3; intro  hf; exact absurd hf (by simp [f_X4_measure_18])
  | succ n hk18 =>
    intro σ x2 x3  hf H locs ls hW hS hl
    rw [f_X4_measure_18] at hf
    refine lv_iload_n hx hb dX4_measure_18 rfl (lv_at hl 3 rfl) ?_
    refine lv_iload_n hx hb dX4_measure_19 rfl (lv_at hl 2 rfl) ?_
    refine lv_icmp_ge (tgt := 48) hx hb dX4_measure_20 (by decide) (fun c7 => ?_) (fun c7 => ?_)
    · rw [if_pos c7] at hf
      exact ks_vret C hf hW hS dX4_measure_48
    · rw [if_neg c7] at hf
      refine lv_aload_n hx hb dX4_measure_23 rfl (lv_at hl 1 rfl) ?_
      refine lv_iload_n hx hb dX4_measure_24 rfl (lv_at hl 3 rfl) ?_
      obtain ⟨hi8, hf⟩ := ks_guard hf
      refine ks_aald hx hb hK hW (ks_v1 (i := 0) (j := 0) (hE 1 rfl)) 3 (ks_c1 cy ad o 0 0 _) rfl rfl hi8 dX4_measure_25 ?_
      refine lv_astore (lv' := [(4, .ref (ad 8 (x3.toNatClampNeg) 0)), (0, .ref (ad 0 0 0)), (1, .ref (ad 1 0 0)), (2, .int x2), (3, .int x3)]) hx hb dX4_measure_26 hl (by decide) rfl (fun ls hl => ?_)
      refine lv_aload hx hb dX4_measure_28 (lv_at hl 0 rfl) ?_
      refine va_get (D := D) (ci := 3) (v := .int (σ 8 ((x3.toNatClampNeg)) 0 0)) (C := RX3) (T := TX3) (N := 10) hx hb hts in_X4_measure_3 hown hK (ks_P1 hW (ks_v8 (j := 0) (ks_in_lt hi8) (hE 8 rfl)) (ks_c8 cy ad o (x3.toNatClampNeg) 0 _)) 0 rfl rfl 0 (by decide) (hts (.fieldLink RX4 55 "SpinKernel$Task" "isThere" "Z") (by decide +kernel)) (fun _ h => h) rfl dX4_measure_30 ?_
      refine lv_if_eq (tgt := 42) hx hb dX4_measure_33 (by decide) (fun c9 => ?_) (fun c9 => ?_)
      · rw [if_pos c9] at hf
        refine lv_iinc (v := (x3 + 1)) (lv' := [(3, .int (x3 + 1)), (4, .ref (ad 8 (x3.toNatClampNeg) 0)), (0, .ref (ad 0 0 0)), (1, .ref (ad 1 0 0)), (2, .int x2)]) hx hb dX4_measure_42 hl (k := 4) rfl rfl (by decide) rfl (fun ls hl => ?_)
        refine lv_goto (tgt := 18) hx hb dX4_measure_45 (by decide) ?_
        exact hk18 _ _ _ hf hW hS (lv_sub hl [2, 3, 4, 0] rfl)
      · rw [if_neg c9] at hf
        refine lv_aload_n hx hb dX4_measure_36 rfl (lv_at hl 1 rfl) ?_
        refine lv_aload hx hb dX4_measure_37 (lv_at hl 0 rfl) ?_
        obtain ⟨s11, hc10, hf⟩ := ks_bind hf
        try dsimp only at hf
        refine ks_callv (va_runV (As := [.ref (ad 8 (x3.toNatClampNeg) 0)]) (rest := []) ⟨hx, hb, hml, hown, hts⟩ (m_X4_inflate l D cy ad En n0 hG hE o (ks_v8 (j := 0) (ks_in_lt hi8) (hE 8 rfl)) hc10) (cwV 1 hts gX4_measure_X4_inflate rfl rfl rfl (by decide +kernel) ⟨(Nat.le_of_ble_eq_true rfl), (Nat.le_of_ble_eq_true rfl)⟩) ⟨ks_U.blind, ks_recv hK hW (ks_v0 (i := 0) (j := 0) (hE 0 rfl)) (ks_c0 cy ad o 0 0 _) rfl, fun U hU hWm => ⟨rfl, hU0.now hS hW hWm.alike hU⟩⟩ rfl rfl hl.1 rfl (lv_room (Nat.le_of_ble_eq_true rfl)) dX4_measure_39 ⟨(Nat.le_of_ble_eq_true rfl), (Nat.le_of_ble_eq_true rfl)⟩) hS (fun H locs hW hS => ?_)
        refine lv_iinc (v := (x3 + 1)) (lv' := [(3, .int (x3 + 1)), (4, .ref (ad 8 (x3.toNatClampNeg) 0)), (0, .ref (ad 0 0 0)), (1, .ref (ad 1 0 0)), (2, .int x2)]) hx hb dX4_measure_42 hl (k := 4) rfl rfl (by decide) rfl (fun ls hl => ?_)
        refine lv_goto (tgt := 18) hx hb dX4_measure_45 (by decide) ?_
        exact hk18 _ _ _ hf hW hS (lv_sub hl [2, 3, 4, 0] rfl)
set_option maxHeartbeats 4000000 in
set_option maxRecDepth 100000 in
theorem t_X4_measure {p : Program} {l : Launch} {e : Env} {s : State} {m : MethodId} {args : Array Value} {below : List Frame} {meth : Method} {c : Code} {D : va_G} {cy : Nat → ClassId} {ad : ks_A} {En : Nat → Prop} {n0 : Nat → Prop} {σ0 : ks_S} {o : Int64} {N : Nat} {out : ks_S} (C : ks_M p s m args meth c D cy ad En (fun k => ks_g k = 0) n0 σ0 o wsX4_measure cX4_measure RX4 5 (none)) {σ : ks_S}   (hf : f_X4_measure N σ  = some out) {H : Heap} {locs : List Loc} {ls : Array Slot} (hW : ks_W D cy ad En σ o H) (hS : va_S (ks_F n0) s.heap H locs) (hl : lv_has ls 5 [(0, .ref (ad 0 0 0))]) : W p l e (ks_Rm 3 0 0 64) s m args below meth c H locs 0 0 (MQ below (ks_Qv D cy ad En n0 o out) args s 0 0 (ks_F n0)) (F0 m 0 ls []) := by
  obtain ⟨hx, hb, hml, hr, hown, hts, hlocks, hG, hU0, hE⟩ := id C
  have hK := hU0.2.2
  unfold f_X4_measure at hf
  refine lv_aload_n hx hb dX4_measure_0 rfl (lv_at hl 0 rfl) ?_
  obtain ⟨s2, hc1, hf⟩ := ks_bind hf
  try dsimp only at hf
  refine ks_callv (va_runV (As := []) (rest := []) ⟨hx, hb, hml, hown, hts⟩ (m_X4_formGroups l D cy ad En n0 hG hE o hc1) (cwV 0 hts gX4_measure_X4_formGroups rfl rfl rfl (by decide +kernel) ⟨(Nat.le_of_ble_eq_true rfl), (Nat.le_of_ble_eq_true rfl)⟩) ⟨ks_U.blind, ks_recv hK hW (ks_v0 (i := 0) (j := 0) (hE 0 rfl)) (ks_c0 cy ad o 0 0 _) rfl, fun U hU hWm => ⟨rfl, hU0.now hS hW hWm.alike hU⟩⟩ rfl rfl hl.1 rfl (lv_room (Nat.le_of_ble_eq_true rfl)) dX4_measure_1 ⟨(Nat.le_of_ble_eq_true rfl), (Nat.le_of_ble_eq_true rfl)⟩) hS (fun H locs hW hS => ?_)
  refine lv_aload_n hx hb dX4_measure_4 rfl (lv_at hl 0 rfl) ?_
  obtain ⟨s5, hc4, hf⟩ := ks_bind hf
  try dsimp only at hf
  refine ks_callv (va_runV (As := []) (rest := []) ⟨hx, hb, hml, hown, hts⟩ (m_X4_findLongest l D cy ad En n0 hG hE o hc4) (cwV 0 hts gX4_measure_X4_findLongest rfl rfl rfl (by decide +kernel) ⟨(Nat.le_of_ble_eq_true rfl), (Nat.le_of_ble_eq_true rfl)⟩) ⟨ks_U.blind, ks_recv hK hW (ks_v0 (i := 0) (j := 0) (hE 0 rfl)) (ks_c0 cy ad o 0 0 _) rfl, fun U hU hWm => ⟨rfl, hU0.now hS hW hWm.alike hU⟩⟩ rfl rfl hl.1 rfl (lv_room (Nat.le_of_ble_eq_true rfl)) dX4_measure_5 ⟨(Nat.le_of_ble_eq_true rfl), (Nat.le_of_ble_eq_true rfl)⟩) hS (fun H locs hW hS => ?_)
  refine lv_aload_n hx hb dX4_measure_8 rfl (lv_at hl 0 rfl) ?_
  refine va_get (D := D) (ci := 4) (v := .ref (ad 1 0 0)) (C := RX4) (T := TX4) (N := 8) hx hb hts in_X4_measure_4 hown hK (ks_P1 hW (ks_v0 (i := 0) (j := 0) (hE 0 rfl)) (ks_c0 cy ad o 0 0 _)) 0 rfl rfl 0 (by decide) (hts (.fieldLink RX4 11 "SpinKernel" "tasks" "[LSpinKernel$Task;") (by decide +kernel)) (fun _ h => h) rfl dX4_measure_9 ?_
  refine lv_astore_n (lv' := [(1, .ref (ad 1 0 0)), (0, .ref (ad 0 0 0))]) hx hb dX4_measure_12 rfl hl (by decide) rfl (fun ls hl => ?_)
  refine lv_aload_n hx hb dX4_measure_13 rfl (lv_at hl 0 rfl) ?_
  refine ks_alen hx hb hK hW (ks_v1 (i := 0) (j := 0) (hE 1 rfl)) 3 (ks_c1 cy ad o 0 0 _) rfl (v := 16) rfl dX4_measure_14 ?_
  refine lv_istore_n (lv' := [(2, .int 16), (1, .ref (ad 1 0 0)), (0, .ref (ad 0 0 0))]) hx hb dX4_measure_15 rfl hl (by decide) rfl (fun ls hl => ?_)
  refine lv_iconst (v := 0) hx hb dX4_measure_16 (by decide) ?_
  refine lv_istore_n (lv' := [(3, .int 0), (2, .int 16), (1, .ref (ad 1 0 0)), (0, .ref (ad 0 0 0))]) hx hb dX4_measure_17 rfl hl (by decide) rfl (fun ls hl => ?_)
  exact t_X4_measure_18 C _ _ _ _  hf hW hS (lv_sub hl [3, 2, 1, 0] rfl)
set_option maxHeartbeats 4000000 in
set_option maxRecDepth 100000 in
theorem m_X4_measure (l : Launch) (D : va_G) (cy : Nat → ClassId) (ad : ks_A) (En : Nat → Prop) (n0 : Nat → Prop) (hG : ks_G ad En n0) (hE : ∀ k, ks_g k = 0 → En k) (o : Int64) {N : Nat} {σ : ks_S}   {out : ks_S} (hf : f_X4_measure N σ  = some out) : Met l yX4_measure wsX4_measure (ks_Rm 3 0 0 64) (va_Pc [.ref (ad 0 0 0)] (ks_U D cy ad En n0 σ o)) (ks_Qv D cy ad En n0 o out) 0 0 (ks_F n0) := by
  refine Met.ofW (cc := cX4_measure) (maxL := 5) (ret := none) (by decide) rfl ?_
  intro p e s m args below meth c s₁ B hml hv
  obtain ⟨rfl, hU⟩ := hv
  have hl := lv_entry ([.ref (ad 0 0 0)]) (n := 5) (Nat.le_of_ble_eq_true rfl)
  rw [lg_entry_eq]
  generalize (lg_sl ([.ref (ad 0 0 0)]) ++ List.replicate (5 - (lg_sl ([.ref (ad 0 0 0)])).length) Slot.unset).toArray = ls at hl ⊢
  exact t_X4_measure ⟨B.exec, B.bytes, hml, B.returns, findClass_of_methodNamed B.named, atoms_spec (ws := wsX4_measure) B.pre, B.notSynchronized, hG, hU, hE⟩  hf hU.2.1 va_S.rf hl
