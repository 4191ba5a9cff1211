/-! SpinKernel.unseal()V -/
def f_X4_unseal_58 (N : Nat) : Nat → ks_S → Int32 → Int32 → Option ((Nat ⊕ Unit) × ks_S)
  | 0, _, _, _ => none
  | n + 1, σ, x2, x3 => (if x2 ≤ x3 then some (.inr (), σ) else (if ks_in x3 16 = true then ((f_X3_forgetJobs N σ ((x3.toNatClampNeg))).bind fun s15 => f_X4_unseal_58 N n s15 x2 ((x3 + 1))) else none))
def f_X4_unseal (N : Nat) (σ : ks_S)  : Option ((Nat ⊕ Unit) × ks_S) :=
  (if ((σ 0 0 0 6)) = 0 then some (.inl 1, σ) else ((f_X4_isAnyJobOpen N σ).bind fun (r4, s3) => (if r4 = 0 then ((f_fill_6 N ((ks_up (ks_up s3 0 0 0 6 0) 0 0 0 7 0)) ((-1))).bind fun s7 => ((f_fill_7 N s7 0).bind fun s10 => f_X4_unseal_58 N N s10 16 0)) else some (.inl 1, s3))))
theorem in_X4_unseal_4 : ∀ w ∈ wsX40, w ∈ wsX4_unseal := by decide +kernel
set_option maxHeartbeats 4000000 in
set_option maxRecDepth 100000 in
theorem t_X4_unseal_58 {p : Program} {l : Launch} {e : Env} {s : State} {m : MethodId} {args : Array Value} {below : List Frame} {meth : Method} {c : Code} {D : va_G} {cy : Nat → ClassId} {ad : ks_A} {En : Nat → Prop} {n0 : Nat → Prop} {σ0 : ks_S} {o : Int64} {N : Nat} {out : ((Nat ⊕ Unit) × ks_S)} (C : ks_M p s m args meth c D cy ad En (fun k => ks_g k = 0) n0 σ0 o wsX4_unseal cX4_unseal RX4 5 (none)) (hlt : l.stackTraces = false) (hN : ks_N n0 s) (hexc : ∀ x ∈ c.exceptionTable.toList, False) : ∀ (n : Nat) (σ : ks_S) (x2 : Int32) (x3 : Int32), f_X4_unseal_58 N n σ x2 x3 = some out → ∀ {H : Heap} {locs : List Loc} {ls : Array Slot}, ks_W D cy ad En σ o H → va_S (ks_F n0) s.heap H locs → lv_has ls 5 [(1, .ref (ad 1 0 0)), (2, .int x2), (3, .int x3)] → W p l e (ks_Rm 6 1 6 81) s m args below meth c H locs 0 0 (vx_MQ below (ks_Yv D cy ad En n0 o out) (ks_X D cy ad En n0 o out) args s 1 6 (ks_F n0)) (F0 m 58 ls []) := by
  obtain ⟨hx, hb, hml, hr, hown, hts, hlocks, hG, hU0, hE⟩ := id C
  have hK := hU0.2.2
  intro n
  induction n with
  | zero => intro σ x2 x3; intro  hf; exact absurd hf (by simp [f_X4_unseal_58])
  | succ n hk58 =>
    intro σ x2 x3  hf H locs ls hW hS hl
    rw [f_X4_unseal_58] at hf
    refine lv_iload_n hx hb dX4_unseal_58 rfl (lv_at hl 2 rfl) ?_
    refine lv_iload_n hx hb dX4_unseal_59 rfl (lv_at hl 1 rfl) ?_
    refine lv_icmp_ge (tgt := 79) hx hb dX4_unseal_60 (by decide) (fun c12 => ?_) (fun c12 => ?_)
    · rw [if_pos c12] at hf
      exact ks_yvret (Nat.le_of_ble_eq_true rfl) (Nat.le_of_ble_eq_true rfl) C hf hW hS dX4_unseal_79
    · rw [if_neg c12] at hf
      refine lv_aload_n hx hb dX4_unseal_63 rfl (lv_at hl 0 rfl) ?_
      refine lv_iload_n hx hb dX4_unseal_64 rfl (lv_at hl 2 rfl) ?_
      obtain ⟨hi13, hf⟩ := ks_guard hf
      refine ks_aald hx hb hK hW (ks_v1 (i := 0) (j := 0) (hE 1 rfl)) 3 (ks_c1 cy ad o 0 0 _) rfl rfl hi13 dX4_unseal_65 ?_
      refine lv_astore (lv' := [(4, .ref (ad 8 (x3.toNatClampNeg) 0)), (1, .ref (ad 1 0 0)), (2, .int x2), (3, .int x3)]) hx hb dX4_unseal_66 hl (by decide) rfl (fun ls hl => ?_)
      refine lv_aload hx hb dX4_unseal_68 (lv_at hl 0 rfl) ?_
      obtain ⟨s15, hc14, hf⟩ := ks_bind hf
      try dsimp only at hf
      refine ks_callv (va_runV (As := []) (rest := []) ⟨hx, hb, hml, hown, hts⟩ (m_X3_forgetJobs l D cy ad En n0 hG hE o (ks_v8 (j := 0) (ks_in_lt hi13) (hE 8 rfl)) hc14) (cwV 0 hts gX4_unseal_X3_forgetJobs rfl rfl rfl (by decide +kernel) ⟨(Nat.le_of_ble_eq_true rfl), (Nat.le_of_ble_eq_true rfl)⟩) ⟨ks_U.blind, ks_recv hK hW (ks_v8 (j := 0) (ks_in_lt hi13) (hE 8 rfl)) (ks_c8 cy ad o (x3.toNatClampNeg) 0 _) rfl, fun U hU hWm => ⟨rfl, hU0.now hS hW hWm.alike hU⟩⟩ rfl rfl hl.1 rfl (lv_room (Nat.le_of_ble_eq_true rfl)) dX4_unseal_70 ⟨(Nat.le_of_ble_eq_true rfl), (Nat.le_of_ble_eq_true rfl)⟩) hS (fun H locs hW hS => ?_)
      refine lv_iinc (v := (x3 + 1)) (lv' := [(3, .int (x3 + 1)), (4, .ref (ad 8 (x3.toNatClampNeg) 0)), (1, .ref (ad 1 0 0)), (2, .int x2)]) hx hb dX4_unseal_73 hl (k := 3) rfl rfl (by decide) rfl (fun ls hl => ?_)
      refine lv_goto (tgt := 58) hx hb dX4_unseal_76 (by decide) ?_
      exact hk58 _ _ _ hf hW hS (lv_sub hl [2, 3, 0] rfl)
set_option maxHeartbeats 4000000 in
set_option maxRecDepth 100000 in
theorem t_X4_unseal {p : Program} {l : Launch} {e : Env} {s : State} {m : MethodId} {args : Array Value} {below : List Frame} {meth : Method} {c : Code} {D : va_G} {cy : Nat → ClassId} {ad : ks_A} {En : Nat → Prop} {n0 : Nat → Prop} {σ0 : ks_S} {o : Int64} {N : Nat} {out : ((Nat ⊕ Unit) × ks_S)} (C : ks_M p s m args meth c D cy ad En (fun k => ks_g k = 0) n0 σ0 o wsX4_unseal cX4_unseal RX4 5 (none)) (hlt : l.stackTraces = false) (hN : ks_N n0 s) (hexc : ∀ x ∈ c.exceptionTable.toList, False) {σ : ks_S}   (hf : f_X4_unseal N σ  = some out) {H : Heap} {locs : List Loc} {ls : Array Slot} (hW : ks_W D cy ad En σ o H) (hS : va_S (ks_F n0) s.heap H locs) (hl : lv_has ls 5 [(0, .ref (ad 0 0 0))]) : W p l e (ks_Rm 6 1 6 81) s m args below meth c H locs 0 0 (vx_MQ below (ks_Yv D cy ad En n0 o out) (ks_X D cy ad En n0 o out) args s 1 6 (ks_F n0)) (F0 m 0 ls []) := by
  obtain ⟨hx, hb, hml, hr, hown, hts, hlocks, hG, hU0, hE⟩ := id C
  have hK := hU0.2.2
  unfold f_X4_unseal at hf
  refine lv_aload_n hx hb dX4_unseal_0 rfl (lv_at hl 0 rfl) ?_
  refine va_get (D := D) (ci := 4) (v := .int (σ 0 0 0 6)) (C := RX4) (T := TX4) (N := 8) hx hb hts in_X4_unseal_4 hown hK (ks_P1 hW (ks_v0 (i := 0) (j := 0) (hE 0 rfl)) (ks_c0 cy ad o 0 0 _)) 0 rfl rfl 6 (by decide) (hts (.fieldLink RX4 51 "SpinKernel" "sealed" "Z") (by decide +kernel)) (fun _ h => h) rfl dX4_unseal_1 ?_
  refine lv_if_eq (tgt := 14) hx hb dX4_unseal_4 (by decide) (fun c1 => ?_) (fun c1 => ?_)
  · rw [if_pos c1] at hf
    exact ks_throw (ik := 58) (ic := 60) 1 hlt hN hexc C rfl (by decide +kernel) (by decide +kernel) (by decide +kernel) (by decide +kernel) ks_at1 ks_ag1 hf hW hS hl.1 dX4_unseal_14 dX4_unseal_17 dX4_unseal_18 dX4_unseal_21 ⟨(Nat.le_of_ble_eq_true rfl), (Nat.le_of_ble_eq_true rfl), (Nat.le_of_ble_eq_true rfl), (Nat.le_of_ble_eq_true rfl)⟩ (Nat.le_of_ble_eq_true rfl) (Nat.le_of_ble_eq_true rfl)
  · rw [if_neg c1] at hf
    refine lv_aload_n hx hb dX4_unseal_7 rfl (lv_at hl 0 rfl) ?_
    obtain ⟨⟨r4, s3⟩, hc2, hf⟩ := ks_bind hf
    try dsimp only at hf
    refine ks_calli (va_runV (As := []) (rest := []) ⟨hx, hb, hml, hown, hts⟩ (m_X4_isAnyJobOpen l D cy ad En n0 hG hE o hc2) (cwV 0 hts gX4_unseal_X4_isAnyJobOpen rfl rfl rfl (by decide +kernel) ⟨(Nat.le_of_ble_eq_true rfl), (Nat.le_of_ble_eq_true rfl)⟩) ⟨ks_U.blind, ks_recv hK hW (ks_v0 (i := 0) (j := 0) (hE 0 rfl)) (ks_c0 cy ad o 0 0 _) rfl, fun U hU hWm => ⟨rfl, hU0.now hS hW hWm.alike hU⟩⟩ rfl rfl hl.1 rfl (lv_room (Nat.le_of_ble_eq_true rfl)) dX4_unseal_8 ⟨(Nat.le_of_ble_eq_true rfl), (Nat.le_of_ble_eq_true rfl)⟩) hS (fun H locs hW hS => ?_)
    refine lv_if_eq (tgt := 22) hx hb dX4_unseal_11 (by decide) (fun c5 => ?_) (fun c5 => ?_)
    · rw [if_pos c5] at hf
      refine lv_aload_n hx hb dX4_unseal_22 rfl (lv_at hl 0 rfl) ?_
      refine lv_iconst (v := 0) hx hb dX4_unseal_23 (by decide) ?_
      refine ks_put (D := D) (ci := 4) (C := RX4) (T := TX4) (N := 8) hx hb hts in_X4_unseal_4 tyX4 tyX4_ok nmX4 hown hK hG hW hS (ks_v0 (i := 0) (j := 0) (hE 0 rfl)) 6 (v := 0) (ks_c0 cy ad o 0 0 _) (ks_c0s6 cy ad o 0 0 _ _) rfl (by decide) (hts (.fieldLink RX4 51 "SpinKernel" "sealed" "Z") (by decide +kernel)) rfl (ty := .boolean) (by decide +kernel) rfl rfl (Nat.le_of_ble_eq_true rfl) dX4_unseal_24 (fun H locs hW hS => ?_)
      refine lv_aload_n hx hb dX4_unseal_27 rfl (lv_at hl 0 rfl) ?_
      refine lv_iconst (v := 0) hx hb dX4_unseal_28 (by decide) ?_
      refine ks_put (D := D) (ci := 4) (C := RX4) (T := TX4) (N := 8) hx hb hts in_X4_unseal_4 tyX4 tyX4_ok nmX4 hown hK hG hW hS (ks_v0 (i := 0) (j := 0) (hE 0 rfl)) 7 (v := 0) (ks_c0 cy ad o 0 0 _) (ks_c0s7 cy ad o 0 0 _ _) rfl (by decide) (hts (.fieldLink RX4 113 "SpinKernel" "now" "I") (by decide +kernel)) rfl (ty := .int) (by decide +kernel) rfl rfl (Nat.le_of_ble_eq_true rfl) dX4_unseal_29 (fun H locs hW hS => ?_)
      refine lv_aload_n hx hb dX4_unseal_32 rfl (lv_at hl 0 rfl) ?_
      refine va_get (D := D) (ci := 4) (v := .ref (ad 6 0 0)) (C := RX4) (T := TX4) (N := 8) hx hb hts in_X4_unseal_4 hown hK (ks_P1 hW (ks_v0 (i := 0) (j := 0) (hE 0 rfl)) (ks_c0 cy ad o 0 0 _)) 0 rfl rfl 4 (by decide) (hts (.fieldLink RX4 30 "SpinKernel" "taskOfCore" "[I") (by decide +kernel)) (fun _ h => h) rfl dX4_unseal_33 ?_
      refine lv_iconst (v := (-1)) hx hb dX4_unseal_36 (by decide) ?_
      obtain ⟨s7, hc6, hf⟩ := ks_bind hf
      try dsimp only at hf
      refine ks_callv (va_runS (As := [.ref (ad 6 0 0), .int (-1)]) (rest := []) ⟨hx, hb, hml, hown, hts⟩ (m_fill_6 l D cy ad En n0 hG (fun k h => h ▸ hE 6 rfl) o hc6) (va_cwS 2 hts gX4_unseal_J7_fill_53178 rfl rfl rfl (by decide +kernel) ⟨(Nat.le_of_ble_eq_true rfl), (Nat.le_of_ble_eq_true rfl)⟩) ⟨ks_U.blind, fun U hU hWm => ⟨rfl, hU0.now hS hW hWm.alike hU⟩⟩ rfl rfl hl.1 rfl (lv_room (Nat.le_of_ble_eq_true rfl)) dX4_unseal_37 ⟨(Nat.le_of_ble_eq_true rfl), (Nat.le_of_ble_eq_true rfl)⟩) hS (fun H locs hW hS => ?_)
      refine lv_aload_n hx hb dX4_unseal_40 rfl (lv_at hl 0 rfl) ?_
      refine va_get (D := D) (ci := 4) (v := .ref (ad 7 0 0)) (C := RX4) (T := TX4) (N := 8) hx hb hts in_X4_unseal_4 hown hK (ks_P1 hW (ks_v0 (i := 0) (j := 0) (hE 0 rfl)) (ks_c0 cy ad o 0 0 _)) 0 rfl rfl 5 (by decide) (hts (.fieldLink RX4 33 "SpinKernel" "deedOfCore" "[I") (by decide +kernel)) (fun _ h => h) rfl dX4_unseal_41 ?_
      refine lv_iconst (v := 0) hx hb dX4_unseal_44 (by decide) ?_
      obtain ⟨s10, hc9, hf⟩ := ks_bind hf
      try dsimp only at hf
      refine ks_callv (va_runS (As := [.ref (ad 7 0 0), .int 0]) (rest := []) ⟨hx, hb, hml, hown, hts⟩ (m_fill_7 l D cy ad En n0 hG (fun k h => h ▸ hE 7 rfl) o hc9) (va_cwS 2 hts gX4_unseal_J7_fill_53178 rfl rfl rfl (by decide +kernel) ⟨(Nat.le_of_ble_eq_true rfl), (Nat.le_of_ble_eq_true rfl)⟩) ⟨ks_U.blind, fun U hU hWm => ⟨rfl, hU0.now hS hW hWm.alike hU⟩⟩ rfl rfl hl.1 rfl (lv_room (Nat.le_of_ble_eq_true rfl)) dX4_unseal_45 ⟨(Nat.le_of_ble_eq_true rfl), (Nat.le_of_ble_eq_true rfl)⟩) hS (fun H locs hW hS => ?_)
      refine lv_aload_n hx hb dX4_unseal_48 rfl (lv_at hl 0 rfl) ?_
      refine va_get (D := D) (ci := 4) (v := .ref (ad 1 0 0)) (C := RX4) (T := TX4) (N := 8) hx hb hts in_X4_unseal_4 hown hK (ks_P1 hW (ks_v0 (i := 0) (j := 0) (hE 0 rfl)) (ks_c0 cy ad o 0 0 _)) 0 rfl rfl 0 (by decide) (hts (.fieldLink RX4 11 "SpinKernel" "tasks" "[LSpinKernel$Task;") (by decide +kernel)) (fun _ h => h) rfl dX4_unseal_49 ?_
      refine lv_astore_n (lv' := [(1, .ref (ad 1 0 0)), (0, .ref (ad 0 0 0))]) hx hb dX4_unseal_52 rfl hl (by decide) rfl (fun ls hl => ?_)
      refine lv_aload_n hx hb dX4_unseal_53 rfl (lv_at hl 0 rfl) ?_
      refine ks_alen hx hb hK hW (ks_v1 (i := 0) (j := 0) (hE 1 rfl)) 3 (ks_c1 cy ad o 0 0 _) rfl (v := 16) rfl dX4_unseal_54 ?_
      refine lv_istore_n (lv' := [(2, .int 16), (1, .ref (ad 1 0 0)), (0, .ref (ad 0 0 0))]) hx hb dX4_unseal_55 rfl hl (by decide) rfl (fun ls hl => ?_)
      refine lv_iconst (v := 0) hx hb dX4_unseal_56 (by decide) ?_
      refine lv_istore_n (lv' := [(3, .int 0), (2, .int 16), (1, .ref (ad 1 0 0)), (0, .ref (ad 0 0 0))]) hx hb dX4_unseal_57 rfl hl (by decide) rfl (fun ls hl => ?_)
      exact t_X4_unseal_58 C hlt hN hexc _ _ _ _  hf hW hS (lv_sub hl [2, 1, 0] rfl)
    · rw [if_neg c5] at hf
      exact ks_throw (ik := 58) (ic := 60) 1 hlt hN hexc C rfl (by decide +kernel) (by decide +kernel) (by decide +kernel) (by decide +kernel) ks_at1 ks_ag1 hf hW hS hl.1 dX4_unseal_14 dX4_unseal_17 dX4_unseal_18 dX4_unseal_21 ⟨(Nat.le_of_ble_eq_true rfl), (Nat.le_of_ble_eq_true rfl), (Nat.le_of_ble_eq_true rfl), (Nat.le_of_ble_eq_true rfl)⟩ (Nat.le_of_ble_eq_true rfl) (Nat.le_of_ble_eq_true rfl)
set_option maxHeartbeats 4000000 in
set_option maxRecDepth 100000 in
theorem m_X4_unseal (l : Launch) (hlt : l.stackTraces = false) (D : va_G) (cy : Nat → ClassId) (ad : ks_A) (En : Nat → Prop) (n0 : Nat → Prop) (hG : ks_G ad En n0) (hE : ∀ k, ks_g k = 0 → En k) (o : Int64) {N : Nat} {σ : ks_S}   {out : ((Nat ⊕ Unit) × ks_S)} (hf : f_X4_unseal N σ  = some out) : vx_Met l yX4_unseal wsX4_unseal (ks_Rm 6 1 6 81) (va_Pc [.ref (ad 0 0 0)] (ks_UN D cy ad En n0 σ o)) (ks_Yv D cy ad En n0 o out) (ks_X D cy ad En n0 o out) 1 6 (ks_F n0) := by
  refine vx_ofW (cc := cX4_unseal) (maxL := 5) (ret := none) (by decide) rfl ?_
  intro p e s m args below meth c s₁ B hml hexc hv
  obtain ⟨rfl, hU, hN⟩ := hv
  have hl := lv_entry ([.ref (ad 0 0 0)]) (n := 5) (Nat.le_of_ble_eq_true rfl)
  rw [lg_entry_eq]
  generalize (lg_sl ([.ref (ad 0 0 0)]) ++ List.replicate (5 - (lg_sl ([.ref (ad 0 0 0)])).length) Slot.unset).toArray = ls at hl ⊢
  exact t_X4_unseal ⟨B.exec, B.bytes, hml, B.returns, findClass_of_methodNamed B.named, atoms_spec (ws := wsX4_unseal) B.pre, B.notSynchronized, hG, hU, hE⟩ hlt hN hexc  hf hU.2.1 va_S.rf hl

/-! SpinKernel.arrive(I)Z -/
def f_X4_arrive (N : Nat) (σ : ks_S) (x1 : Int32) : Option ((Nat ⊕ Int32) × ks_S) :=
  ((f_X4_taskAt σ x1).bind fun q5 => match q5 with | (.inl e4, s2) => some (.inl e4, s2) | (.inr (r3, r3j), s2) => (if ((s2 0 0 0 6)) = 0 then some (.inl 1, s2) else (if ((s2 9 r3 0 0)) = 0 then ((f_X3_startJob N s2 r3 ((s2 0 0 0 7))).bind fun s10 => some (.inr 1, s10)) else (if ((s2 8 r3 0 3)) ≤ ((((s2 0 0 0 7)) - ((s2 9 r3 0 2)))) then ((f_X3_startJob N s2 r3 ((s2 0 0 0 7))).bind fun s14 => some (.inr 1, s14)) else some (.inr 0, s2)))))
theorem in_X4_arrive_0 : ∀ w ∈ wsX00, w ∈ wsX4_arrive := by decide +kernel
theorem in_X4_arrive_3 : ∀ w ∈ wsX30, w ∈ wsX4_arrive := by decide +kernel
theorem in_X4_arrive_4 : ∀ w ∈ wsX40, w ∈ wsX4_arrive := by decide +kernel
set_option maxHeartbeats 4000000 in
set_option maxRecDepth 100000 in
theorem t_X4_arrive {p : Program} {l : Launch} {e : Env} {s : State} {m : MethodId} {args : Array Value} {below : List Frame} {meth : Method} {c : Code} {D : va_G} {cy : Nat → ClassId} {ad : ks_A} {En : Nat → Prop} {n0 : Nat → Prop} {σ0 : ks_S} {o : Int64} {N : Nat} {out : ((Nat ⊕ Int32) × ks_S)} (C : ks_M p s m args meth c D cy ad En (fun k => ks_g k = 0) n0 σ0 o wsX4_arrive cX4_arrive RX4 3 (some .boolean)) (hlt : l.stackTraces = false) (hN : ks_N n0 s) (hexc : ∀ x ∈ c.exceptionTable.toList, False) {σ : ks_S} {x1 : Int32}  (hf : f_X4_arrive N σ x1 = some out) {H : Heap} {locs : List Loc} {ls : Array Slot} (hW : ks_W D cy ad En σ o H) (hS : va_S (ks_F n0) s.heap H locs) (hl : lv_has ls 3 [(0, .ref (ad 0 0 0)), (1, .int x1)]) : W p l e (ks_Rm 7 2 12 102) s m args below meth c H locs 0 0 (vx_MQ below (ks_Yi D cy ad En n0 o out) (ks_X D cy ad En n0 o out) args s 2 12 (ks_F n0)) (F0 m 0 ls []) := by
  obtain ⟨hx, hb, hml, hr, hown, hts, hlocks, hG, hU0, hE⟩ := id C
  have hK := hU0.2.2
  unfold f_X4_arrive at hf
  refine lv_aload_n hx hb dX4_arrive_0 rfl (lv_at hl 0 rfl) ?_
  refine lv_iload_n hx hb dX4_arrive_1 rfl (lv_at hl 1 rfl) ?_
  obtain ⟨⟨e4 | ⟨r3, r3j⟩, s2⟩, hc1, hf⟩ := ks_bind hf
  · exact ks_xthrow (vx_runV (As := [.int x1]) (rest := []) ⟨hx, hb, hml, hown, hts⟩ (m_X4_taskAt l hlt D cy ad En n0 hG hE o hc1) (cwV 1 hts gX4_arrive_X4_taskAt rfl rfl rfl (by decide +kernel) ⟨(Nat.le_of_ble_eq_true rfl), (Nat.le_of_ble_eq_true rfl)⟩) ⟨ks_UN.blind, ks_recv hK hW (ks_v0 (i := 0) (j := 0) (hE 0 rfl)) (ks_c0 cy ad o 0 0 _) rfl, fun U hU hWm => ⟨rfl, ks_UN.now hU0 hN hS hW hWm.alike hU⟩⟩ rfl rfl hl.1 rfl (lv_room (Nat.le_of_ble_eq_true rfl)) dX4_arrive_2 ⟨(Nat.le_of_ble_eq_true rfl), (Nat.le_of_ble_eq_true rfl)⟩) ks_nor hS C hexc hf (Nat.le_of_ble_eq_true rfl) (Nat.le_of_ble_eq_true rfl)
  try dsimp only at hf
  refine ks_xcallr (vx_runV (As := [.int x1]) (rest := []) ⟨hx, hb, hml, hown, hts⟩ (m_X4_taskAt l hlt D cy ad En n0 hG hE o hc1) (cwV 1 hts gX4_arrive_X4_taskAt rfl rfl rfl (by decide +kernel) ⟨(Nat.le_of_ble_eq_true rfl), (Nat.le_of_ble_eq_true rfl)⟩) ⟨ks_UN.blind, ks_recv hK hW (ks_v0 (i := 0) (j := 0) (hE 0 rfl)) (ks_c0 cy ad o 0 0 _) rfl, fun U hU hWm => ⟨rfl, ks_UN.now hU0 hN hS hW hWm.alike hU⟩⟩ rfl rfl hl.1 rfl (lv_room (Nat.le_of_ble_eq_true rfl)) dX4_arrive_2 ⟨(Nat.le_of_ble_eq_true rfl), (Nat.le_of_ble_eq_true rfl)⟩) hS (fun H locs hv6 hW hS => ?_)
  obtain rfl : r3j = 0 := ks_j0 hv6 rfl
  refine lv_astore_n (lv' := [(2, .ref (ad 8 r3 0)), (0, .ref (ad 0 0 0)), (1, .int x1)]) hx hb dX4_arrive_5 rfl hl (by decide) rfl (fun ls hl => ?_)
  refine lv_aload_n hx hb dX4_arrive_6 rfl (lv_at hl 1 rfl) ?_
  refine va_get (D := D) (ci := 4) (v := .int (s2 0 0 0 6)) (C := RX4) (T := TX4) (N := 8) hx hb hts in_X4_arrive_4 hown hK (ks_P1 hW (ks_v0 (i := 0) (j := 0) (hE 0 rfl)) (ks_c0 cy ad o 0 0 _)) 0 rfl rfl 6 (by decide) (hts (.fieldLink RX4 51 "SpinKernel" "sealed" "Z") (by decide +kernel)) (fun _ h => h) rfl dX4_arrive_7 ?_
  refine lv_if_ne (tgt := 21) hx hb dX4_arrive_10 (by decide) (fun c7 => ?_) (fun c7 => ?_)
  · rw [if_neg c7] at hf
    refine lv_aload_n hx hb dX4_arrive_21 rfl (lv_at hl 0 rfl) ?_
    refine va_get (D := D) (ci := 3) (v := .ref (ad 9 r3 0)) (C := RX3) (T := TX3) (N := 10) hx hb hts in_X4_arrive_3 hown hK (ks_P1 hW hv6 (ks_c8 cy ad o r3 0 _)) 0 rfl rfl 9 (by decide) (hts (.fieldLink RX4 119 "SpinKernel$Task" "job" "LSpinKernel$Job;") (by decide +kernel)) (fun _ h => h) rfl dX4_arrive_22 ?_
    refine va_get (D := D) (ci := 0) (v := .int (s2 9 r3 0 0)) (C := RX0) (T := TX0) (N := 12) hx hb hts in_X4_arrive_0 hown hK (ks_P1 hW (ks_v9 (j := 0) hv6.2.1 (hE 9 rfl)) (ks_c9 cy ad o r3 0 _)) 0 rfl rfl 0 (by decide) (hts (.fieldLink RX4 123 "SpinKernel$Job" "hasCome" "Z") (by decide +kernel)) (fun _ h => h) rfl dX4_arrive_25 ?_
    refine lv_if_eq (tgt := 52) hx hb dX4_arrive_28 (by decide) (fun c8 => ?_) (fun c8 => ?_)
    · rw [if_pos c8] at hf
      refine lv_aload_n hx hb dX4_arrive_52 rfl (lv_at hl 0 rfl) ?_
      refine lv_aload_n hx hb dX4_arrive_53 rfl (lv_at hl 1 rfl) ?_
      refine va_get (D := D) (ci := 4) (v := .int (s2 0 0 0 7)) (C := RX4) (T := TX4) (N := 8) hx hb hts in_X4_arrive_4 hown hK (ks_P1 hW (ks_v0 (i := 0) (j := 0) (hE 0 rfl)) (ks_c0 cy ad o 0 0 _)) 0 rfl rfl 7 (by decide) (hts (.fieldLink RX4 113 "SpinKernel" "now" "I") (by decide +kernel)) (fun _ h => h) rfl dX4_arrive_54 ?_
      obtain ⟨s10, hc9, hf⟩ := ks_bind hf
      try dsimp only at hf
      refine ks_callv (va_runV (As := [.int (s2 0 0 0 7)]) (rest := []) ⟨hx, hb, hml, hown, hts⟩ (m_X3_startJob l D cy ad En n0 hG hE o hv6 hc9) (cwV 1 hts gX4_arrive_X3_startJob rfl rfl rfl (by decide +kernel) ⟨(Nat.le_of_ble_eq_true rfl), (Nat.le_of_ble_eq_true rfl)⟩) ⟨ks_U.blind, ks_recv hK hW hv6 (ks_c8 cy ad o r3 0 _) rfl, fun U hU hWm => ⟨rfl, hU0.now hS hW hWm.alike hU⟩⟩ rfl rfl hl.1 rfl (lv_room (Nat.le_of_ble_eq_true rfl)) dX4_arrive_57 ⟨(Nat.le_of_ble_eq_true rfl), (Nat.le_of_ble_eq_true rfl)⟩) hS (fun H locs hW hS => ?_)
      refine lv_iconst (v := 1) hx hb dX4_arrive_60 (by decide) ?_
      exact ks_yzret (Nat.le_of_ble_eq_true rfl) (Nat.le_of_ble_eq_true rfl) C rfl hf hW hS dX4_arrive_61
    · rw [if_neg c8] at hf
      refine lv_aload_n hx hb dX4_arrive_31 rfl (lv_at hl 1 rfl) ?_
      refine va_get (D := D) (ci := 4) (v := .int (s2 0 0 0 7)) (C := RX4) (T := TX4) (N := 8) hx hb hts in_X4_arrive_4 hown hK (ks_P1 hW (ks_v0 (i := 0) (j := 0) (hE 0 rfl)) (ks_c0 cy ad o 0 0 _)) 0 rfl rfl 7 (by decide) (hts (.fieldLink RX4 113 "SpinKernel" "now" "I") (by decide +kernel)) (fun _ h => h) rfl dX4_arrive_32 ?_
      refine lv_aload_n hx hb dX4_arrive_35 rfl (lv_at hl 0 rfl) ?_
      refine va_get (D := D) (ci := 3) (v := .ref (ad 9 r3 0)) (C := RX3) (T := TX3) (N := 10) hx hb hts in_X4_arrive_3 hown hK (ks_P1 hW hv6 (ks_c8 cy ad o r3 0 _)) 0 rfl rfl 9 (by decide) (hts (.fieldLink RX4 119 "SpinKernel$Task" "job" "LSpinKernel$Job;") (by decide +kernel)) (fun _ h => h) rfl dX4_arrive_36 ?_
      refine va_get (D := D) (ci := 0) (v := .int (s2 9 r3 0 2)) (C := RX0) (T := TX0) (N := 12) hx hb hts in_X4_arrive_0 hown hK (ks_P1 hW (ks_v9 (j := 0) hv6.2.1 (hE 9 rfl)) (ks_c9 cy ad o r3 0 _)) 0 rfl rfl 2 (by decide) (hts (.fieldLink RX4 128 "SpinKernel$Job" "cameAt" "I") (by decide +kernel)) (fun _ h => h) rfl dX4_arrive_39 ?_
      refine lv_isub hx hb dX4_arrive_42 ?_
      refine lv_aload_n hx hb dX4_arrive_43 rfl (lv_at hl 0 rfl) ?_
      refine va_get (D := D) (ci := 3) (v := .int (s2 8 r3 0 3)) (C := RX3) (T := TX3) (N := 10) hx hb hts in_X4_arrive_3 hown hK (ks_P1 hW hv6 (ks_c8 cy ad o r3 0 _)) 0 rfl rfl 3 (by decide) (hts (.fieldLink RX4 131 "SpinKernel$Task" "distance" "I") (by decide +kernel)) (fun _ h => h) rfl dX4_arrive_44 ?_
      refine lv_icmp_ge (tgt := 52) hx hb dX4_arrive_47 (by decide) (fun c12 => ?_) (fun c12 => ?_)
      · rw [if_pos c12] at hf
        refine lv_aload_n hx hb dX4_arrive_52 rfl (lv_at hl 0 rfl) ?_
        refine lv_aload_n hx hb dX4_arrive_53 rfl (lv_at hl 1 rfl) ?_
        refine va_get (D := D) (ci := 4) (v := .int (s2 0 0 0 7)) (C := RX4) (T := TX4) (N := 8) hx hb hts in_X4_arrive_4 hown hK (ks_P1 hW (ks_v0 (i := 0) (j := 0) (hE 0 rfl)) (ks_c0 cy ad o 0 0 _)) 0 rfl rfl 7 (by decide) (hts (.fieldLink RX4 113 "SpinKernel" "now" "I") (by decide +kernel)) (fun _ h => h) rfl dX4_arrive_54 ?_
        obtain ⟨s14, hc13, hf⟩ := ks_bind hf
        try dsimp only at hf
        refine ks_callv (va_runV (As := [.int (s2 0 0 0 7)]) (rest := []) ⟨hx, hb, hml, hown, hts⟩ (m_X3_startJob l D cy ad En n0 hG hE o hv6 hc13) (cwV 1 hts gX4_arrive_X3_startJob rfl rfl rfl (by decide +kernel) ⟨(Nat.le_of_ble_eq_true rfl), (Nat.le_of_ble_eq_true rfl)⟩) ⟨ks_U.blind, ks_recv hK hW hv6 (ks_c8 cy ad o r3 0 _) rfl, fun U hU hWm => ⟨rfl, hU0.now hS hW hWm.alike hU⟩⟩ rfl rfl hl.1 rfl (lv_room (Nat.le_of_ble_eq_true rfl)) dX4_arrive_57 ⟨(Nat.le_of_ble_eq_true rfl), (Nat.le_of_ble_eq_true rfl)⟩) hS (fun H locs hW hS => ?_)
        refine lv_iconst (v := 1) hx hb dX4_arrive_60 (by decide) ?_
        exact ks_yzret (Nat.le_of_ble_eq_true rfl) (Nat.le_of_ble_eq_true rfl) C rfl hf hW hS dX4_arrive_61
      · rw [if_neg c12] at hf
        refine lv_iconst (v := 0) hx hb dX4_arrive_50 (by decide) ?_
        exact ks_yzret (Nat.le_of_ble_eq_true rfl) (Nat.le_of_ble_eq_true rfl) C rfl hf hW hS dX4_arrive_51
  · rw [if_pos c7] at hf
    exact ks_throw (ik := 58) (ic := 60) 1 hlt hN hexc C rfl (by decide +kernel) (by decide +kernel) (by decide +kernel) (by decide +kernel) ks_at1 ks_ag1 hf hW hS hl.1 dX4_arrive_13 dX4_arrive_16 dX4_arrive_17 dX4_arrive_20 ⟨(Nat.le_of_ble_eq_true rfl), (Nat.le_of_ble_eq_true rfl), (Nat.le_of_ble_eq_true rfl), (Nat.le_of_ble_eq_true rfl)⟩ (Nat.le_of_ble_eq_true rfl) (Nat.le_of_ble_eq_true rfl)
set_option maxHeartbeats 4000000 in
set_option maxRecDepth 100000 in
theorem m_X4_arrive (l : Launch) (hlt : l.stackTraces = false) (D : va_G) (cy : Nat → ClassId) (ad : ks_A) (En : Nat → Prop) (n0 : Nat → Prop) (hG : ks_G ad En n0) (hE : ∀ k, ks_g k = 0 → En k) (o : Int64) {N : Nat} {σ : ks_S} {x1 : Int32}  {out : ((Nat ⊕ Int32) × ks_S)} (hf : f_X4_arrive N σ x1 = some out) : vx_Met l yX4_arrive wsX4_arrive (ks_Rm 7 2 12 102) (va_Pc [.ref (ad 0 0 0), .int x1] (ks_UN D cy ad En n0 σ o)) (ks_Yi D cy ad En n0 o out) (ks_X D cy ad En n0 o out) 2 12 (ks_F n0) := by
  refine vx_ofW (cc := cX4_arrive) (maxL := 3) (ret := some .boolean) (by decide) rfl ?_
  intro p e s m args below meth c s₁ B hml hexc hv
  obtain ⟨rfl, hU, hN⟩ := hv
  have hl := lv_entry ([.ref (ad 0 0 0), .int x1]) (n := 3) (Nat.le_of_ble_eq_true rfl)
  rw [lg_entry_eq]
  generalize (lg_sl ([.ref (ad 0 0 0), .int x1]) ++ List.replicate (3 - (lg_sl ([.ref (ad 0 0 0), .int x1])).length) Slot.unset).toArray = ls at hl ⊢
  exact t_X4_arrive ⟨B.exec, B.bytes, hml, B.returns, findClass_of_methodNamed B.named, atoms_spec (ws := wsX4_arrive) B.pre, B.notSynchronized, hG, hU, hE⟩ hlt hN hexc  hf hU.2.1 va_S.rf hl

/-! SpinKernel.shorten(III)V -/
def f_X4_shorten (σ : ks_S) (x1 : Int32) (x2 : Int32) (x3 : Int32) : Option ((Nat ⊕ Unit) × ks_S) :=
  ((f_X4_taskAt σ x1).bind fun q5 => match q5 with | (.inl e4, s2) => some (.inl e4, s2) | (.inr (r3, r3j), s2) => ((f_X4_requestAt s2 r3 x2).bind fun q11 => match q11 with | (.inl e10, s8) => some (.inl e10, s8) | (.inr (r9, r9j), s8) => (if ((s8 0 0 0 6)) = 0 then some (.inl 1, s8) else ((f_X1_isOuter s8 r9 r9j).bind fun (r16, s15) => (if r16 = 0 then some (.inl 2, s15) else ((f_X4_isWithin s15 x3 1 ((s15 11 r9 r9j 2))).bind fun (r20, s19) => (if r20 = 0 then some (.inl 2, s19) else some (.inr (), (ks_up s19 11 r9 r9j 5 x3)))))))))
theorem in_X4_shorten_1 : ∀ w ∈ wsX10, w ∈ wsX4_shorten := by decide +kernel
theorem in_X4_shorten_4 : ∀ w ∈ wsX40, w ∈ wsX4_shorten := by decide +kernel
set_option maxHeartbeats 4000000 in
set_option maxRecDepth 100000 in
theorem t_X4_shorten {p : Program} {l : Launch} {e : Env} {s : State} {m : MethodId} {args : Array Value} {below : List Frame} {meth : Method} {c : Code} {D : va_G} {cy : Nat → ClassId} {ad : ks_A} {En : Nat → Prop} {n0 : Nat → Prop} {σ0 : ks_S} {o : Int64} {out : ((Nat ⊕ Unit) × ks_S)} (C : ks_M p s m args meth c D cy ad En (fun k => ks_g k = 0) n0 σ0 o wsX4_shorten cX4_shorten RX4 5 (none)) (hlt : l.stackTraces = false) (hN : ks_N n0 s) (hexc : ∀ x ∈ c.exceptionTable.toList, False) {σ : ks_S} {x1 : Int32} {x2 : Int32} {x3 : Int32}  (hf : f_X4_shorten σ x1 x2 x3 = some out) {H : Heap} {locs : List Loc} {ls : Array Slot} (hW : ks_W D cy ad En σ o H) (hS : va_S (ks_F n0) s.heap H locs) (hl : lv_has ls 5 [(0, .ref (ad 0 0 0)), (1, .int x1), (2, .int x2), (3, .int x3)]) : W p l e (ks_Rm 7 3 18 102) s m args below meth c H locs 0 0 (vx_MQ below (ks_Yv D cy ad En n0 o out) (ks_X D cy ad En n0 o out) args s 3 18 (ks_F n0)) (F0 m 0 ls []) := by
  obtain ⟨hx, hb, hml, hr, hown, hts, hlocks, hG, hU0, hE⟩ := id C
  have hK := hU0.2.2
  unfold f_X4_shorten at hf
  refine lv_aload_n hx hb dX4_shorten_0 rfl (lv_at hl 0 rfl) ?_
  refine lv_iload_n hx hb dX4_shorten_1 rfl (lv_at hl 1 rfl) ?_
  obtain ⟨⟨e4 | ⟨r3, r3j⟩, s2⟩, hc1, hf⟩ := ks_bind hf
  · exact ks_xthrow (vx_runV (As := [.int x1]) (rest := []) ⟨hx, hb, hml, hown, hts⟩ (m_X4_taskAt l hlt D cy ad En n0 hG hE o hc1) (cwV 1 hts gX4_shorten_X4_taskAt rfl rfl rfl (by decide +kernel) ⟨(Nat.le_of_ble_eq_true rfl), (Nat.le_of_ble_eq_true rfl)⟩) ⟨ks_UN.blind, ks_recv hK hW (ks_v0 (i := 0) (j := 0) (hE 0 rfl)) (ks_c0 cy ad o 0 0 _) rfl, fun U hU hWm => ⟨rfl, ks_UN.now hU0 hN hS hW hWm.alike hU⟩⟩ rfl rfl hl.1 rfl (lv_room (Nat.le_of_ble_eq_true rfl)) dX4_shorten_2 ⟨(Nat.le_of_ble_eq_true rfl), (Nat.le_of_ble_eq_true rfl)⟩) ks_nor hS C hexc hf (Nat.le_of_ble_eq_true rfl) (Nat.le_of_ble_eq_true rfl)
  try dsimp only at hf
  refine ks_xcallr (vx_runV (As := [.int x1]) (rest := []) ⟨hx, hb, hml, hown, hts⟩ (m_X4_taskAt l hlt D cy ad En n0 hG hE o hc1) (cwV 1 hts gX4_shorten_X4_taskAt rfl rfl rfl (by decide +kernel) ⟨(Nat.le_of_ble_eq_true rfl), (Nat.le_of_ble_eq_true rfl)⟩) ⟨ks_UN.blind, ks_recv hK hW (ks_v0 (i := 0) (j := 0) (hE 0 rfl)) (ks_c0 cy ad o 0 0 _) rfl, fun U hU hWm => ⟨rfl, ks_UN.now hU0 hN hS hW hWm.alike hU⟩⟩ rfl rfl hl.1 rfl (lv_room (Nat.le_of_ble_eq_true rfl)) dX4_shorten_2 ⟨(Nat.le_of_ble_eq_true rfl), (Nat.le_of_ble_eq_true rfl)⟩) hS (fun H locs hv6 hW hS => ?_)
  obtain rfl : r3j = 0 := ks_j0 hv6 rfl
  refine lv_iload_n hx hb dX4_shorten_5 rfl (lv_at hl 2 rfl) ?_
  obtain ⟨⟨e10 | ⟨r9, r9j⟩, s8⟩, hc7, hf⟩ := ks_bind hf
  · exact ks_xthrow (vx_runS (As := [.ref (ad 8 r3 0), .int x2]) (rest := []) ⟨hx, hb, hml, hown, hts⟩ (m_X4_requestAt l hlt D cy ad En n0 hG hE o hv6 hc7) (va_cwS 2 hts gX4_shorten_X4_requestAt rfl rfl rfl (by decide +kernel) ⟨(Nat.le_of_ble_eq_true rfl), (Nat.le_of_ble_eq_true rfl)⟩) ⟨ks_UN.blind, fun U hU hWm => ⟨rfl, ks_UN.now hU0 hN hS hW hWm.alike hU⟩⟩ rfl rfl hl.1 rfl (lv_room (Nat.le_of_ble_eq_true rfl)) dX4_shorten_6 ⟨(Nat.le_of_ble_eq_true rfl), (Nat.le_of_ble_eq_true rfl)⟩) ks_nor hS C hexc hf (Nat.le_of_ble_eq_true rfl) (Nat.le_of_ble_eq_true rfl)
  try dsimp only at hf
  refine ks_xcallr (vx_runS (As := [.ref (ad 8 r3 0), .int x2]) (rest := []) ⟨hx, hb, hml, hown, hts⟩ (m_X4_requestAt l hlt D cy ad En n0 hG hE o hv6 hc7) (va_cwS 2 hts gX4_shorten_X4_requestAt rfl rfl rfl (by decide +kernel) ⟨(Nat.le_of_ble_eq_true rfl), (Nat.le_of_ble_eq_true rfl)⟩) ⟨ks_UN.blind, fun U hU hWm => ⟨rfl, ks_UN.now hU0 hN hS hW hWm.alike hU⟩⟩ rfl rfl hl.1 rfl (lv_room (Nat.le_of_ble_eq_true rfl)) dX4_shorten_6 ⟨(Nat.le_of_ble_eq_true rfl), (Nat.le_of_ble_eq_true rfl)⟩) hS (fun H locs hv12 hW hS => ?_)
  refine lv_astore (lv' := [(4, .ref (ad 11 r9 r9j)), (0, .ref (ad 0 0 0)), (1, .int x1), (2, .int x2), (3, .int x3)]) hx hb dX4_shorten_9 hl (by decide) rfl (fun ls hl => ?_)
  refine lv_aload_n hx hb dX4_shorten_11 rfl (lv_at hl 1 rfl) ?_
  refine va_get (D := D) (ci := 4) (v := .int (s8 0 0 0 6)) (C := RX4) (T := TX4) (N := 8) hx hb hts in_X4_shorten_4 hown hK (ks_P1 hW (ks_v0 (i := 0) (j := 0) (hE 0 rfl)) (ks_c0 cy ad o 0 0 _)) 0 rfl rfl 6 (by decide) (hts (.fieldLink RX4 51 "SpinKernel" "sealed" "Z") (by decide +kernel)) (fun _ h => h) rfl dX4_shorten_12 ?_
  refine lv_if_ne (tgt := 26) hx hb dX4_shorten_15 (by decide) (fun c13 => ?_) (fun c13 => ?_)
  · rw [if_neg c13] at hf
    refine lv_aload hx hb dX4_shorten_26 (lv_at hl 0 rfl) ?_
    obtain ⟨⟨r16, s15⟩, hc14, hf⟩ := ks_bind hf
    try dsimp only at hf
    refine ks_calli (va_runV (As := []) (rest := []) ⟨hx, hb, hml, hown, hts⟩ (m_X1_isOuter l D cy ad En n0 hG hE o hv12 hc14) (cwV 0 hts gX4_shorten_X1_isOuter rfl rfl rfl (by decide +kernel) ⟨(Nat.le_of_ble_eq_true rfl), (Nat.le_of_ble_eq_true rfl)⟩) ⟨ks_U.blind, ks_recv hK hW hv12 (ks_c11 cy ad o r9 r9j _) rfl, fun U hU hWm => ⟨rfl, hU0.now hS hW hWm.alike hU⟩⟩ rfl rfl hl.1 rfl (lv_room (Nat.le_of_ble_eq_true rfl)) dX4_shorten_28 ⟨(Nat.le_of_ble_eq_true rfl), (Nat.le_of_ble_eq_true rfl)⟩) hS (fun H locs hW hS => ?_)
    refine lv_if_eq (tgt := 47) hx hb dX4_shorten_31 (by decide) (fun c17 => ?_) (fun c17 => ?_)
    · rw [if_pos c17] at hf
      exact ks_throw (ik := 65) (ic := 67) 2 hlt hN hexc C rfl (by decide +kernel) (by decide +kernel) (by decide +kernel) (by decide +kernel) ks_at2 ks_ag2 hf hW hS hl.1 dX4_shorten_47 dX4_shorten_50 dX4_shorten_51 dX4_shorten_54 ⟨(Nat.le_of_ble_eq_true rfl), (Nat.le_of_ble_eq_true rfl), (Nat.le_of_ble_eq_true rfl), (Nat.le_of_ble_eq_true rfl)⟩ (Nat.le_of_ble_eq_true rfl) (Nat.le_of_ble_eq_true rfl)
    · rw [if_neg c17] at hf
      refine lv_iload_n hx hb dX4_shorten_34 rfl (lv_at hl 4 rfl) ?_
      refine lv_iconst (v := 1) hx hb dX4_shorten_35 (by decide) ?_
      refine lv_aload hx hb dX4_shorten_36 (lv_at hl 0 rfl) ?_
      refine va_get (D := D) (ci := 1) (v := .int (s15 11 r9 r9j 2)) (C := RX1) (T := TX1) (N := 8) hx hb hts in_X4_shorten_1 hown hK (ks_P1 hW hv12 (ks_c11 cy ad o r9 r9j _)) 0 rfl rfl 2 (by decide) (hts (.fieldLink RX4 141 "SpinKernel$Request" "length" "I") (by decide +kernel)) (fun _ h => h) rfl dX4_shorten_38 ?_
      obtain ⟨⟨r20, s19⟩, hc18, hf⟩ := ks_bind hf
      try dsimp only at hf
      refine ks_calli (va_runS (As := [.int x3, .int 1, .int (s15 11 r9 r9j 2)]) (rest := []) ⟨hx, hb, hml, hown, hts⟩ (m_X4_isWithin l D cy ad En n0 hG hE o hc18) (va_cwS 3 hts gX4_shorten_X4_isWithin rfl rfl rfl (by decide +kernel) ⟨(Nat.le_of_ble_eq_true rfl), (Nat.le_of_ble_eq_true rfl)⟩) ⟨ks_U.blind, fun U hU hWm => ⟨rfl, hU0.now hS hW hWm.alike hU⟩⟩ rfl rfl hl.1 rfl (lv_room (Nat.le_of_ble_eq_true rfl)) dX4_shorten_41 ⟨(Nat.le_of_ble_eq_true rfl), (Nat.le_of_ble_eq_true rfl)⟩) hS (fun H locs hW hS => ?_)
      refine lv_if_ne (tgt := 55) hx hb dX4_shorten_44 (by decide) (fun c21 => ?_) (fun c21 => ?_)
      · rw [if_neg c21] at hf
        refine lv_aload hx hb dX4_shorten_55 (lv_at hl 0 rfl) ?_
        refine lv_iload_n hx hb dX4_shorten_57 rfl (lv_at hl 4 rfl) ?_
        refine ks_put (D := D) (ci := 1) (C := RX1) (T := TX1) (N := 8) hx hb hts in_X4_shorten_1 tyX1 tyX1_ok nmX1 hown hK hG hW hS hv12 5 (v := x3) (ks_c11 cy ad o r9 r9j _) (ks_c11s5 cy ad o r9 r9j _ _) rfl (by decide) (hts (.fieldLink RX4 144 "SpinKernel$Request" "ticksOfNextJob" "I") (by decide +kernel)) rfl (ty := .int) (by decide +kernel) rfl rfl (Nat.le_of_ble_eq_true rfl) dX4_shorten_58 (fun H locs hW hS => ?_)
        exact ks_yvret (Nat.le_of_ble_eq_true rfl) (Nat.le_of_ble_eq_true rfl) C hf hW hS dX4_shorten_61
      · rw [if_pos c21] at hf
        exact ks_throw (ik := 65) (ic := 67) 2 hlt hN hexc C rfl (by decide +kernel) (by decide +kernel) (by decide +kernel) (by decide +kernel) ks_at2 ks_ag2 hf hW hS hl.1 dX4_shorten_47 dX4_shorten_50 dX4_shorten_51 dX4_shorten_54 ⟨(Nat.le_of_ble_eq_true rfl), (Nat.le_of_ble_eq_true rfl), (Nat.le_of_ble_eq_true rfl), (Nat.le_of_ble_eq_true rfl)⟩ (Nat.le_of_ble_eq_true rfl) (Nat.le_of_ble_eq_true rfl)
  · rw [if_pos c13] at hf
    exact ks_throw (ik := 58) (ic := 60) 1 hlt hN hexc C rfl (by decide +kernel) (by decide +kernel) (by decide +kernel) (by decide +kernel) ks_at1 ks_ag1 hf hW hS hl.1 dX4_shorten_18 dX4_shorten_21 dX4_shorten_22 dX4_shorten_25 ⟨(Nat.le_of_ble_eq_true rfl), (Nat.le_of_ble_eq_true rfl), (Nat.le_of_ble_eq_true rfl), (Nat.le_of_ble_eq_true rfl)⟩ (Nat.le_of_ble_eq_true rfl) (Nat.le_of_ble_eq_true rfl)
set_option maxHeartbeats 4000000 in
set_option maxRecDepth 100000 in
theorem m_X4_shorten (l : Launch) (hlt : l.stackTraces = false) (D : va_G) (cy : Nat → ClassId) (ad : ks_A) (En : Nat → Prop) (n0 : Nat → Prop) (hG : ks_G ad En n0) (hE : ∀ k, ks_g k = 0 → En k) (o : Int64) {σ : ks_S} {x1 : Int32} {x2 : Int32} {x3 : Int32}  {out : ((Nat ⊕ Unit) × ks_S)} (hf : f_X4_shorten σ x1 x2 x3 = some out) : vx_Met l yX4_shorten wsX4_shorten (ks_Rm 7 3 18 102) (va_Pc [.ref (ad 0 0 0), .int x1, .int x2, .int x3] (ks_UN D cy ad En n0 σ o)) (ks_Yv D cy ad En n0 o out) (ks_X D cy ad En n0 o out) 3 18 (ks_F n0) := by
  refine vx_ofW (cc := cX4_shorten) (maxL := 5) (ret := none) (by decide) rfl ?_
  intro p e s m args below meth c s₁ B hml hexc hv
  obtain ⟨rfl, hU, hN⟩ := hv
  have hl := lv_entry ([.ref (ad 0 0 0), .int x1, .int x2, .int x3]) (n := 5) (Nat.le_of_ble_eq_true rfl)
  rw [lg_entry_eq]
  generalize (lg_sl ([.ref (ad 0 0 0), .int x1, .int x2, .int x3]) ++ List.replicate (5 - (lg_sl ([.ref (ad 0 0 0), .int x1, .int x2, .int x3])).length) Slot.unset).toArray = ls at hl ⊢
  exact t_X4_shorten ⟨B.exec, B.bytes, hml, B.returns, findClass_of_methodNamed B.named, atoms_spec (ws := wsX4_shorten) B.pre, B.notSynchronized, hG, hU, hE⟩ hlt hN hexc  hf hU.2.1 va_S.rf hl

/-! SpinKernel.tick(I)I -/
def f_X4_tick_37 (N : Nat) : Nat → ks_S → Int32 → Int32 → Option ((Nat ⊕ Int32) × ks_S)
  | 0, _, _, _ => none
  | n + 1, σ, x2, x3 => (if x3 ≤ 0 then some (.inr x2, σ) else ((f_X4_takeJobs N σ).bind fun s8 => ((f_X4_letFirstsHold N s8).bind fun s11 => ((f_X4_ticksAlike N s11).bind fun (r15, s14) => ((f_X4_workOn N ((ks_up s14 0 0 0 7 ((((s14 0 0 0 7)) + ((if 1 < ((if r15 < x3 then r15 else x3)) then ((if r15 < x3 then r15 else x3)) else 1)))))) ((if 1 < ((if r15 < x3 then r15 else x3)) then ((if r15 < x3 then r15 else x3)) else 1))).bind fun (r18, s17) => f_X4_tick_37 N n s17 ((x2 + r18)) ((x3 - ((if 1 < ((if r15 < x3 then r15 else x3)) then ((if r15 < x3 then r15 else x3)) else 1)))))))))
def f_X4_tick (N : Nat) (σ : ks_S) (x1 : Int32) : Option ((Nat ⊕ Int32) × ks_S) :=
  (if ((σ 0 0 0 6)) = 0 then some (.inl 1, σ) else ((f_X4_isWithin σ x1 1 100000).bind fun (r4, s3) => (if r4 = 0 then some (.inl 2, s3) else f_X4_tick_37 N N s3 0 x1)))
theorem in_X4_tick_4 : ∀ w ∈ wsX40, w ∈ wsX4_tick := by decide +kernel
set_option maxHeartbeats 4000000 in
set_option maxRecDepth 100000 in
theorem t_X4_tick_37 {p : Program} {l : Launch} {e : Env} {s : State} {m : MethodId} {args : Array Value} {below : List Frame} {meth : Method} {c : Code} {D : va_G} {cy : Nat → ClassId} {ad : ks_A} {En : Nat → Prop} {n0 : Nat → Prop} {σ0 : ks_S} {o : Int64} {N : Nat} {out : ((Nat ⊕ Int32) × ks_S)} (C : ks_M p s m args meth c D cy ad En (fun k => ks_g k = 0) n0 σ0 o wsX4_tick cX4_tick RX4 5 (some .int)) (hlt : l.stackTraces = false) (hN : ks_N n0 s) (hexc : ∀ x ∈ c.exceptionTable.toList, False) : ∀ (n : Nat) (σ : ks_S) (x2 : Int32) (x3 : Int32), f_X4_tick_37 N n σ x2 x3 = some out → ∀ {H : Heap} {locs : List Loc} {ls : Array Slot}, ks_W D cy ad En σ o H → va_S (ks_F n0) s.heap H locs → lv_has ls 5 [(0, .ref (ad 0 0 0)), (2, .int x2), (3, .int x3)] → W p l e (ks_Rm 6 1 6 130) s m args below meth c H locs 0 0 (vx_MQ below (ks_Yi D cy ad En n0 o out) (ks_X D cy ad En n0 o out) args s 1 6 (ks_F n0)) (F0 m 37 ls []) := by
  obtain ⟨hx, hb, hml, hr, hown, hts, hlocks, hG, hU0, hE⟩ := id C
  have hK := hU0.2.2
  intro n
  induction n with
  | zero => intro σ x2 x3; intro  hf; exact absurd hf (by simp [f_X4_tick_37])
  | succ n hk37 =>
    intro σ x2 x3  hf H locs ls hW hS hl
    rw [f_X4_tick_37] at hf
    refine lv_iload_n hx hb dX4_tick_37 rfl (lv_at hl 2 rfl) ?_
    refine lv_if_le (tgt := 91) hx hb dX4_tick_38 (by decide) (fun c6 => ?_) (fun c6 => ?_)
    · rw [if_pos c6] at hf
      refine lv_iload_n hx hb dX4_tick_91 rfl (lv_at hl 1 rfl) ?_
      exact ks_yiret (Nat.le_of_ble_eq_true rfl) (Nat.le_of_ble_eq_true rfl) C hf hW hS dX4_tick_92
    · rw [if_neg c6] at hf
      refine lv_aload_n hx hb dX4_tick_41 rfl (lv_at hl 0 rfl) ?_
      obtain ⟨s8, hc7, hf⟩ := ks_bind hf
      try dsimp only at hf
      refine ks_callv (va_runV (As := []) (rest := []) ⟨hx, hb, hml, hown, hts⟩ (m_X4_takeJobs l D cy ad En n0 hG hE o hc7) (cwV 0 hts gX4_tick_X4_takeJobs rfl rfl rfl (by decide +kernel) ⟨(Nat.le_of_ble_eq_true rfl), (Nat.le_of_ble_eq_true rfl)⟩) ⟨ks_U.blind, ks_recv hK hW (ks_v0 (i := 0) (j := 0) (hE 0 rfl)) (ks_c0 cy ad o 0 0 _) rfl, fun U hU hWm => ⟨rfl, hU0.now hS hW hWm.alike hU⟩⟩ rfl rfl hl.1 rfl (lv_room (Nat.le_of_ble_eq_true rfl)) dX4_tick_42 ⟨(Nat.le_of_ble_eq_true rfl), (Nat.le_of_ble_eq_true rfl)⟩) hS (fun H locs hW hS => ?_)
      refine lv_aload_n hx hb dX4_tick_45 rfl (lv_at hl 0 rfl) ?_
      obtain ⟨s11, hc10, hf⟩ := ks_bind hf
      try dsimp only at hf
      refine ks_callv (va_runV (As := []) (rest := []) ⟨hx, hb, hml, hown, hts⟩ (m_X4_letFirstsHold l D cy ad En n0 hG hE o hc10) (cwV 0 hts gX4_tick_X4_letFirstsHold rfl rfl rfl (by decide +kernel) ⟨(Nat.le_of_ble_eq_true rfl), (Nat.le_of_ble_eq_true rfl)⟩) ⟨ks_U.blind, ks_recv hK hW (ks_v0 (i := 0) (j := 0) (hE 0 rfl)) (ks_c0 cy ad o 0 0 _) rfl, fun U hU hWm => ⟨rfl, hU0.now hS hW hWm.alike hU⟩⟩ rfl rfl hl.1 rfl (lv_room (Nat.le_of_ble_eq_true rfl)) dX4_tick_46 ⟨(Nat.le_of_ble_eq_true rfl), (Nat.le_of_ble_eq_true rfl)⟩) hS (fun H locs hW hS => ?_)
      refine lv_iconst (v := 1) hx hb dX4_tick_49 (by decide) ?_
      refine lv_iload_n hx hb dX4_tick_50 rfl (lv_at hl 2 rfl) ?_
      refine lv_aload_n hx hb dX4_tick_51 rfl (lv_at hl 0 rfl) ?_
      obtain ⟨⟨r15, s14⟩, hc13, hf⟩ := ks_bind hf
      try dsimp only at hf
      refine ks_calli (va_runV (As := []) (rest := [.int x3, .int 1]) ⟨hx, hb, hml, hown, hts⟩ (m_X4_ticksAlike l D cy ad En n0 hG hE o hc13) (cwV 0 hts gX4_tick_X4_ticksAlike rfl rfl rfl (by decide +kernel) ⟨(Nat.le_of_ble_eq_true rfl), (Nat.le_of_ble_eq_true rfl)⟩) ⟨ks_U.blind, ks_recv hK hW (ks_v0 (i := 0) (j := 0) (hE 0 rfl)) (ks_c0 cy ad o 0 0 _) rfl, fun U hU hWm => ⟨rfl, hU0.now hS hW hWm.alike hU⟩⟩ rfl rfl hl.1 rfl (lv_room (Nat.le_of_ble_eq_true rfl)) dX4_tick_52 ⟨(Nat.le_of_ble_eq_true rfl), (Nat.le_of_ble_eq_true rfl)⟩) hS (fun H locs hW hS => ?_)
      refine va_mmin hx hb (hml.trans hl.1.symm) hown (hts (.methodLink RX4 158 Lib.Math.min.name) (by decide +kernel)) (hts (.static Lib.Math.min.name) (by decide +kernel)) (hts (.initialized "java/lang/Math") (by decide +kernel)) (hts (.code Lib.Math.min.name Lib.Math.min.code 2 (some .int)) (by decide +kernel)) (Nat.le_of_ble_eq_true rfl) (Nat.le_of_ble_eq_true rfl) (Nat.le_of_ble_eq_true rfl) (Nat.le_of_ble_eq_true rfl) dX4_tick_55 ?_
      refine va_mmax hx hb (hml.trans hl.1.symm) hown (hts (.methodLink RX4 164 Lib.Math.max.name) (by decide +kernel)) (hts (.static Lib.Math.max.name) (by decide +kernel)) (hts (.initialized "java/lang/Math") (by decide +kernel)) (hts (.code Lib.Math.max.name Lib.Math.max.code 2 (some .int)) (by decide +kernel)) (Nat.le_of_ble_eq_true rfl) (Nat.le_of_ble_eq_true rfl) (Nat.le_of_ble_eq_true rfl) (Nat.le_of_ble_eq_true rfl) dX4_tick_58 ?_
      refine lv_istore (lv' := [(4, .int (if 1 < ((if r15 < x3 then r15 else x3)) then ((if r15 < x3 then r15 else x3)) else 1)), (0, .ref (ad 0 0 0)), (2, .int x2), (3, .int x3)]) hx hb dX4_tick_61 hl (by decide) rfl (fun ls hl => ?_)
      refine lv_aload_n hx hb dX4_tick_63 rfl (lv_at hl 1 rfl) ?_
      refine lv_dup hx hb dX4_tick_64 rfl ?_
      refine va_get (D := D) (ci := 4) (v := .int (s14 0 0 0 7)) (C := RX4) (T := TX4) (N := 8) hx hb hts in_X4_tick_4 hown hK (ks_P1 hW (ks_v0 (i := 0) (j := 0) (hE 0 rfl)) (ks_c0 cy ad o 0 0 _)) 0 rfl rfl 7 (by decide) (hts (.fieldLink RX4 113 "SpinKernel" "now" "I") (by decide +kernel)) (fun _ h => h) rfl dX4_tick_65 ?_
      refine lv_iload hx hb dX4_tick_68 (lv_at hl 0 rfl) ?_
      refine lv_iadd hx hb dX4_tick_70 ?_
      refine ks_put (D := D) (ci := 4) (C := RX4) (T := TX4) (N := 8) hx hb hts in_X4_tick_4 tyX4 tyX4_ok nmX4 hown hK hG hW hS (ks_v0 (i := 0) (j := 0) (hE 0 rfl)) 7 (v := (((s14 0 0 0 7)) + ((if 1 < ((if r15 < x3 then r15 else x3)) then ((if r15 < x3 then r15 else x3)) else 1)))) (ks_c0 cy ad o 0 0 _) (ks_c0s7 cy ad o 0 0 _ _) rfl (by decide) (hts (.fieldLink RX4 113 "SpinKernel" "now" "I") (by decide +kernel)) rfl (ty := .int) (by decide +kernel) rfl rfl (Nat.le_of_ble_eq_true rfl) dX4_tick_71 (fun H locs hW hS => ?_)
      refine lv_iload_n hx hb dX4_tick_74 rfl (lv_at hl 2 rfl) ?_
      refine lv_aload_n hx hb dX4_tick_75 rfl (lv_at hl 1 rfl) ?_
      refine lv_iload hx hb dX4_tick_76 (lv_at hl 0 rfl) ?_
      obtain ⟨⟨r18, s17⟩, hc16, hf⟩ := ks_bind hf
      try dsimp only at hf
      refine ks_calli (va_runV (As := [.int (if 1 < ((if r15 < x3 then r15 else x3)) then ((if r15 < x3 then r15 else x3)) else 1)]) (rest := [.int x2]) ⟨hx, hb, hml, hown, hts⟩ (m_X4_workOn l D cy ad En n0 hG hE o hc16) (cwV 1 hts gX4_tick_X4_workOn rfl rfl rfl (by decide +kernel) ⟨(Nat.le_of_ble_eq_true rfl), (Nat.le_of_ble_eq_true rfl)⟩) ⟨ks_U.blind, ks_recv hK hW (ks_v0 (i := 0) (j := 0) (hE 0 rfl)) (ks_c0 cy ad o 0 0 _) rfl, fun U hU hWm => ⟨rfl, hU0.now hS hW hWm.alike hU⟩⟩ rfl rfl hl.1 rfl (lv_room (Nat.le_of_ble_eq_true rfl)) dX4_tick_78 ⟨(Nat.le_of_ble_eq_true rfl), (Nat.le_of_ble_eq_true rfl)⟩) hS (fun H locs hW hS => ?_)
      refine lv_iadd hx hb dX4_tick_81 ?_
      refine lv_istore_n (lv' := [(2, .int (x2 + r18)), (4, .int (if 1 < ((if r15 < x3 then r15 else x3)) then ((if r15 < x3 then r15 else x3)) else 1)), (0, .ref (ad 0 0 0)), (3, .int x3)]) hx hb dX4_tick_82 rfl hl (by decide) rfl (fun ls hl => ?_)
      refine lv_iload_n hx hb dX4_tick_83 rfl (lv_at hl 3 rfl) ?_
      refine lv_iload hx hb dX4_tick_84 (lv_at hl 1 rfl) ?_
      refine lv_isub hx hb dX4_tick_86 ?_
      refine lv_istore_n (lv' := [(3, .int (x3 - ((if 1 < ((if r15 < x3 then r15 else x3)) then ((if r15 < x3 then r15 else x3)) else 1)))), (2, .int (x2 + r18)), (4, .int (if 1 < ((if r15 < x3 then r15 else x3)) then ((if r15 < x3 then r15 else x3)) else 1)), (0, .ref (ad 0 0 0))]) hx hb dX4_tick_87 rfl hl (by decide) rfl (fun ls hl => ?_)
      refine lv_goto (tgt := 37) hx hb dX4_tick_88 (by decide) ?_
      exact hk37 _ _ _ hf hW hS (lv_sub hl [3, 1, 0] rfl)
set_option maxHeartbeats 4000000 in
set_option maxRecDepth 100000 in
theorem t_X4_tick {p : Program} {l : Launch} {e : Env} {s : State} {m : MethodId} {args : Array Value} {below : List Frame} {meth : Method} {c : Code} {D : va_G} {cy : Nat → ClassId} {ad : ks_A} {En : Nat → Prop} {n0 : Nat → Prop} {σ0 : ks_S} {o : Int64} {N : Nat} {out : ((Nat ⊕ Int32) × ks_S)} (C : ks_M p s m args meth c D cy ad En (fun k => ks_g k = 0) n0 σ0 o wsX4_tick cX4_tick RX4 5 (some .int)) (hlt : l.stackTraces = false) (hN : ks_N n0 s) (hexc : ∀ x ∈ c.exceptionTable.toList, False) {σ : ks_S} {x1 : Int32}  (hf : f_X4_tick N σ x1 = some out) {H : Heap} {locs : List Loc} {ls : Array Slot} (hW : ks_W D cy ad En σ o H) (hS : va_S (ks_F n0) s.heap H locs) (hl : lv_has ls 5 [(0, .ref (ad 0 0 0)), (1, .int x1)]) : W p l e (ks_Rm 6 1 6 130) s m args below meth c H locs 0 0 (vx_MQ below (ks_Yi D cy ad En n0 o out) (ks_X D cy ad En n0 o out) args s 1 6 (ks_F n0)) (F0 m 0 ls []) := by
  obtain ⟨hx, hb, hml, hr, hown, hts, hlocks, hG, hU0, hE⟩ := id C
  have hK := hU0.2.2
  unfold f_X4_tick at hf
  refine lv_aload_n hx hb dX4_tick_0 rfl (lv_at hl 0 rfl) ?_
  refine va_get (D := D) (ci := 4) (v := .int (σ 0 0 0 6)) (C := RX4) (T := TX4) (N := 8) hx hb hts in_X4_tick_4 hown hK (ks_P1 hW (ks_v0 (i := 0) (j := 0) (hE 0 rfl)) (ks_c0 cy ad o 0 0 _)) 0 rfl rfl 6 (by decide) (hts (.fieldLink RX4 51 "SpinKernel" "sealed" "Z") (by decide +kernel)) (fun _ h => h) rfl dX4_tick_1 ?_
  refine lv_if_ne (tgt := 15) hx hb dX4_tick_4 (by decide) (fun c1 => ?_) (fun c1 => ?_)
  · rw [if_neg c1] at hf
    refine lv_iload_n hx hb dX4_tick_15 rfl (lv_at hl 1 rfl) ?_
    refine lv_iconst (v := 1) hx hb dX4_tick_16 (by decide) ?_
    refine lv_ldc (v := 100000) hx hb hown (hts (.constant RX4 147 (100000)) (by decide +kernel)) dX4_tick_17 ?_
    obtain ⟨⟨r4, s3⟩, hc2, hf⟩ := ks_bind hf
    try dsimp only at hf
    refine ks_calli (va_runS (As := [.int x1, .int 1, .int 100000]) (rest := []) ⟨hx, hb, hml, hown, hts⟩ (m_X4_isWithin l D cy ad En n0 hG hE o hc2) (va_cwS 3 hts gX4_tick_X4_isWithin rfl rfl rfl (by decide +kernel) ⟨(Nat.le_of_ble_eq_true rfl), (Nat.le_of_ble_eq_true rfl)⟩) ⟨ks_U.blind, fun U hU hWm => ⟨rfl, hU0.now hS hW hWm.alike hU⟩⟩ rfl rfl hl.1 rfl (lv_room (Nat.le_of_ble_eq_true rfl)) dX4_tick_19 ⟨(Nat.le_of_ble_eq_true rfl), (Nat.le_of_ble_eq_true rfl)⟩) hS (fun H locs hW hS => ?_)
    refine lv_if_ne (tgt := 33) hx hb dX4_tick_22 (by decide) (fun c5 => ?_) (fun c5 => ?_)
    · rw [if_neg c5] at hf
      refine lv_iconst (v := 0) hx hb dX4_tick_33 (by decide) ?_
      refine lv_istore_n (lv' := [(2, .int 0), (0, .ref (ad 0 0 0)), (1, .int x1)]) hx hb dX4_tick_34 rfl hl (by decide) rfl (fun ls hl => ?_)
      refine lv_iload_n hx hb dX4_tick_35 rfl (lv_at hl 2 rfl) ?_
      refine lv_istore_n (lv' := [(3, .int x1), (2, .int 0), (0, .ref (ad 0 0 0)), (1, .int x1)]) hx hb dX4_tick_36 rfl hl (by decide) rfl (fun ls hl => ?_)
      exact t_X4_tick_37 C hlt hN hexc _ _ _ _  hf hW hS (lv_sub hl [2, 1, 0] rfl)
    · rw [if_pos c5] at hf
      exact ks_throw (ik := 65) (ic := 67) 2 hlt hN hexc C rfl (by decide +kernel) (by decide +kernel) (by decide +kernel) (by decide +kernel) ks_at2 ks_ag2 hf hW hS hl.1 dX4_tick_25 dX4_tick_28 dX4_tick_29 dX4_tick_32 ⟨(Nat.le_of_ble_eq_true rfl), (Nat.le_of_ble_eq_true rfl), (Nat.le_of_ble_eq_true rfl), (Nat.le_of_ble_eq_true rfl)⟩ (Nat.le_of_ble_eq_true rfl) (Nat.le_of_ble_eq_true rfl)
  · rw [if_pos c1] at hf
    exact ks_throw (ik := 58) (ic := 60) 1 hlt hN hexc C rfl (by decide +kernel) (by decide +kernel) (by decide +kernel) (by decide +kernel) ks_at1 ks_ag1 hf hW hS hl.1 dX4_tick_7 dX4_tick_10 dX4_tick_11 dX4_tick_14 ⟨(Nat.le_of_ble_eq_true rfl), (Nat.le_of_ble_eq_true rfl), (Nat.le_of_ble_eq_true rfl), (Nat.le_of_ble_eq_true rfl)⟩ (Nat.le_of_ble_eq_true rfl) (Nat.le_of_ble_eq_true rfl)
set_option maxHeartbeats 4000000 in
set_option maxRecDepth 100000 in
theorem m_X4_tick (l : Launch) (hlt : l.stackTraces = false) (D : va_G) (cy : Nat → ClassId) (ad : ks_A) (En : Nat → Prop) (n0 : Nat → Prop) (hG : ks_G ad En n0) (hE : ∀ k, ks_g k = 0 → En k) (o : Int64) {N : Nat} {σ : ks_S} {x1 : Int32}  {out : ((Nat ⊕ Int32) × ks_S)} (hf : f_X4_tick N σ x1 = some out) : vx_Met l yX4_tick wsX4_tick (ks_Rm 6 1 6 130) (va_Pc [.ref (ad 0 0 0), .int x1] (ks_UN D cy ad En n0 σ o)) (ks_Yi D cy ad En n0 o out) (ks_X D cy ad En n0 o out) 1 6 (ks_F n0) := by
  refine vx_ofW (cc := cX4_tick) (maxL := 5) (ret := some .int) (by decide) rfl ?_
  intro p e s m args below meth c s₁ B hml hexc hv
  obtain ⟨rfl, hU, hN⟩ := hv
  have hl := lv_entry ([.ref (ad 0 0 0), .int x1]) (n := 5) (Nat.le_of_ble_eq_true rfl)
  rw [lg_entry_eq]
  generalize (lg_sl ([.ref (ad 0 0 0), .int x1]) ++ List.replicate (5 - (lg_sl ([.ref (ad 0 0 0), .int x1])).length) Slot.unset).toArray = ls at hl ⊢
  exact t_X4_tick ⟨B.exec, B.bytes, hml, B.returns, findClass_of_methodNamed B.named, atoms_spec (ws := wsX4_tick) B.pre, B.notSynchronized, hG, hU, hE⟩ hlt hN hexc  hf hU.2.1 va_S.rf hl

/-! SpinKernel.core(II)I -/
def f_X4_core (σ : ks_S) (x1 : Int32) (x2 : Int32) : Option ((Nat ⊕ Int32) × ks_S) :=
  ((f_X4_isWithin σ x1 0 3).bind fun (r3, s2) => (if r3 = 0 then some (.inl 0, s2) else ((f_X4_isWithin s2 x2 0 1).bind fun (r7, s6) => (if r7 = 0 then some (.inl 2, s6) else (if x2 = 0 then (if ks_in x1 4 = true then some (.inr ((s6 6 0 0 x1.toNatClampNeg)), s6) else none) else (if ks_in x1 4 = true then some (.inr ((s6 7 0 0 x1.toNatClampNeg)), s6) else none))))))
theorem in_X4_core_4 : ∀ w ∈ wsX40, w ∈ wsX4_core := by decide +kernel
set_option maxHeartbeats 4000000 in
set_option maxRecDepth 100000 in
theorem t_X4_core {p : Program} {l : Launch} {e : Env} {s : State} {m : MethodId} {args : Array Value} {below : List Frame} {meth : Method} {c : Code} {D : va_G} {cy : Nat → ClassId} {ad : ks_A} {En : Nat → Prop} {n0 : Nat → Prop} {σ0 : ks_S} {o : Int64} {out : ((Nat ⊕ Int32) × ks_S)} (C : ks_M p s m args meth c D cy ad En (fun k => ks_g k = 0) n0 σ0 o wsX4_core cX4_core RX4 3 (some .int)) (hlt : l.stackTraces = false) (hN : ks_N n0 s) (hexc : ∀ x ∈ c.exceptionTable.toList, False) {σ : ks_S} {x1 : Int32} {x2 : Int32}  (hf : f_X4_core σ x1 x2 = some out) {H : Heap} {locs : List Loc} {ls : Array Slot} (hW : ks_W D cy ad En σ o H) (hS : va_S (ks_F n0) s.heap H locs) (hl : lv_has ls 3 [(0, .ref (ad 0 0 0)), (1, .int x1), (2, .int x2)]) : W p l e (ks_Rm 6 1 6 81) s m args below meth c H locs 0 0 (vx_MQ below (ks_Yi D cy ad En n0 o out) (ks_X D cy ad En n0 o out) args s 1 6 (ks_F n0)) (F0 m 0 ls []) := by
  obtain ⟨hx, hb, hml, hr, hown, hts, hlocks, hG, hU0, hE⟩ := id C
  have hK := hU0.2.2
  unfold f_X4_core at hf
  refine lv_iload_n hx hb dX4_core_0 rfl (lv_at hl 1 rfl) ?_
  refine lv_iconst (v := 0) hx hb dX4_core_1 (by decide) ?_
  refine lv_iconst (v := 3) hx hb dX4_core_2 (by decide) ?_
  obtain ⟨⟨r3, s2⟩, hc1, hf⟩ := ks_bind hf
  try dsimp only at hf
  refine ks_calli (va_runS (As := [.int x1, .int 0, .int 3]) (rest := []) ⟨hx, hb, hml, hown, hts⟩ (m_X4_isWithin l D cy ad En n0 hG hE o hc1) (va_cwS 3 hts gX4_core_X4_isWithin rfl rfl rfl (by decide +kernel) ⟨(Nat.le_of_ble_eq_true rfl), (Nat.le_of_ble_eq_true rfl)⟩) ⟨ks_U.blind, fun U hU hWm => ⟨rfl, hU0.now hS hW hWm.alike hU⟩⟩ rfl rfl hl.1 rfl (lv_room (Nat.le_of_ble_eq_true rfl)) dX4_core_3 ⟨(Nat.le_of_ble_eq_true rfl), (Nat.le_of_ble_eq_true rfl)⟩) hS (fun H locs hW hS => ?_)
  refine lv_if_ne (tgt := 17) hx hb dX4_core_6 (by decide) (fun c4 => ?_) (fun c4 => ?_)
  · rw [if_neg c4] at hf
    refine lv_iload_n hx hb dX4_core_17 rfl (lv_at hl 2 rfl) ?_
    refine lv_iconst (v := 0) hx hb dX4_core_18 (by decide) ?_
    refine lv_iconst (v := 1) hx hb dX4_core_19 (by decide) ?_
    obtain ⟨⟨r7, s6⟩, hc5, hf⟩ := ks_bind hf
    try dsimp only at hf
    refine ks_calli (va_runS (As := [.int x2, .int 0, .int 1]) (rest := []) ⟨hx, hb, hml, hown, hts⟩ (m_X4_isWithin l D cy ad En n0 hG hE o hc5) (va_cwS 3 hts gX4_core_X4_isWithin rfl rfl rfl (by decide +kernel) ⟨(Nat.le_of_ble_eq_true rfl), (Nat.le_of_ble_eq_true rfl)⟩) ⟨ks_U.blind, fun U hU hWm => ⟨rfl, hU0.now hS hW hWm.alike hU⟩⟩ rfl rfl hl.1 rfl (lv_room (Nat.le_of_ble_eq_true rfl)) dX4_core_20 ⟨(Nat.le_of_ble_eq_true rfl), (Nat.le_of_ble_eq_true rfl)⟩) hS (fun H locs hW hS => ?_)
    refine lv_if_ne (tgt := 34) hx hb dX4_core_23 (by decide) (fun c8 => ?_) (fun c8 => ?_)
    · rw [if_neg c8] at hf
      refine lv_iload_n hx hb dX4_core_34 rfl (lv_at hl 2 rfl) ?_
      refine lv_if_ne (tgt := 47) hx hb dX4_core_35 (by decide) (fun c9 => ?_) (fun c9 => ?_)
      · rw [if_neg c9] at hf
        refine lv_aload_n hx hb dX4_core_47 rfl (lv_at hl 0 rfl) ?_
        refine va_get (D := D) (ci := 4) (v := .ref (ad 7 0 0)) (C := RX4) (T := TX4) (N := 8) hx hb hts in_X4_core_4 hown hK (ks_P1 hW (ks_v0 (i := 0) (j := 0) (hE 0 rfl)) (ks_c0 cy ad o 0 0 _)) 0 rfl rfl 5 (by decide) (hts (.fieldLink RX4 33 "SpinKernel" "deedOfCore" "[I") (by decide +kernel)) (fun _ h => h) rfl dX4_core_48 ?_
        refine lv_iload_n hx hb dX4_core_51 rfl (lv_at hl 1 rfl) ?_
        obtain ⟨hi10, hf⟩ := ks_guard hf
        refine ks_iald hx hb hK hW (ks_v7 (i := 0) (j := 0) (hE 7 rfl)) (ks_c7 cy ad o 0 0 _) hi10 dX4_core_52 ?_
        exact ks_yiret (Nat.le_of_ble_eq_true rfl) (Nat.le_of_ble_eq_true rfl) C hf hW hS dX4_core_53
      · rw [if_pos c9] at hf
        refine lv_aload_n hx hb dX4_core_38 rfl (lv_at hl 0 rfl) ?_
        refine va_get (D := D) (ci := 4) (v := .ref (ad 6 0 0)) (C := RX4) (T := TX4) (N := 8) hx hb hts in_X4_core_4 hown hK (ks_P1 hW (ks_v0 (i := 0) (j := 0) (hE 0 rfl)) (ks_c0 cy ad o 0 0 _)) 0 rfl rfl 4 (by decide) (hts (.fieldLink RX4 30 "SpinKernel" "taskOfCore" "[I") (by decide +kernel)) (fun _ h => h) rfl dX4_core_39 ?_
        refine lv_iload_n hx hb dX4_core_42 rfl (lv_at hl 1 rfl) ?_
        obtain ⟨hi11, hf⟩ := ks_guard hf
        refine ks_iald hx hb hK hW (ks_v6 (i := 0) (j := 0) (hE 6 rfl)) (ks_c6 cy ad o 0 0 _) hi11 dX4_core_43 ?_
        refine lv_goto (tgt := 53) hx hb dX4_core_44 (by decide) ?_
        exact ks_yiret (Nat.le_of_ble_eq_true rfl) (Nat.le_of_ble_eq_true rfl) C hf hW hS dX4_core_53
    · rw [if_pos c8] at hf
      exact ks_throw (ik := 65) (ic := 67) 2 hlt hN hexc C rfl (by decide +kernel) (by decide +kernel) (by decide +kernel) (by decide +kernel) ks_at2 ks_ag2 hf hW hS hl.1 dX4_core_26 dX4_core_29 dX4_core_30 dX4_core_33 ⟨(Nat.le_of_ble_eq_true rfl), (Nat.le_of_ble_eq_true rfl), (Nat.le_of_ble_eq_true rfl), (Nat.le_of_ble_eq_true rfl)⟩ (Nat.le_of_ble_eq_true rfl) (Nat.le_of_ble_eq_true rfl)
  · rw [if_pos c4] at hf
    exact ks_throw (ik := 48) (ic := 50) 0 hlt hN hexc C rfl (by decide +kernel) (by decide +kernel) (by decide +kernel) (by decide +kernel) ks_at0 ks_ag0 hf hW hS hl.1 dX4_core_9 dX4_core_12 dX4_core_13 dX4_core_16 ⟨(Nat.le_of_ble_eq_true rfl), (Nat.le_of_ble_eq_true rfl), (Nat.le_of_ble_eq_true rfl), (Nat.le_of_ble_eq_true rfl)⟩ (Nat.le_of_ble_eq_true rfl) (Nat.le_of_ble_eq_true rfl)
set_option maxHeartbeats 4000000 in
set_option maxRecDepth 100000 in
theorem m_X4_core (l : Launch) (hlt : l.stackTraces = false) (D : va_G) (cy : Nat → ClassId) (ad : ks_A) (En : Nat → Prop) (n0 : Nat → Prop) (hG : ks_G ad En n0) (hE : ∀ k, ks_g k = 0 → En k) (o : Int64) {σ : ks_S} {x1 : Int32} {x2 : Int32}  {out : ((Nat ⊕ Int32) × ks_S)} (hf : f_X4_core σ x1 x2 = some out) : vx_Met l yX4_core wsX4_core (ks_Rm 6 1 6 81) (va_Pc [.ref (ad 0 0 0), .int x1, .int x2] (ks_UN D cy ad En n0 σ o)) (ks_Yi D cy ad En n0 o out) (ks_X D cy ad En n0 o out) 1 6 (ks_F n0) := by
  refine vx_ofW (cc := cX4_core) (maxL := 3) (ret := some .int) (by decide) rfl ?_
  intro p e s m args below meth c s₁ B hml hexc hv
  obtain ⟨rfl, hU, hN⟩ := hv
  have hl := lv_entry ([.ref (ad 0 0 0), .int x1, .int x2]) (n := 3) (Nat.le_of_ble_eq_true rfl)
  rw [lg_entry_eq]
  generalize (lg_sl ([.ref (ad 0 0 0), .int x1, .int x2]) ++ List.replicate (3 - (lg_sl ([.ref (ad 0 0 0), .int x1, .int x2])).length) Slot.unset).toArray = ls at hl ⊢
  exact t_X4_core ⟨B.exec, B.bytes, hml, B.returns, findClass_of_methodNamed B.named, atoms_spec (ws := wsX4_core) B.pre, B.notSynchronized, hG, hU, hE⟩ hlt hN hexc  hf hU.2.1 va_S.rf hl

/-! SpinKernel.row(II)I -/
def f_X4_row (σ : ks_S) (x1 : Int32) (x2 : Int32) : Option ((Nat ⊕ Int32) × ks_S) :=
  ((f_X4_isWithin σ x1 0 7).bind fun (r3, s2) => (if r3 = 0 then some (.inl 0, s2) else ((f_X4_rowOf s2 x1).bind fun ((r7, r7j), s6) => ((f_X2_coreAt s6 r7 x2).bind fun (r11, s10) => some (.inr r11, s10)))))
set_option maxHeartbeats 4000000 in
set_option maxRecDepth 100000 in
theorem t_X4_row {p : Program} {l : Launch} {e : Env} {s : State} {m : MethodId} {args : Array Value} {below : List Frame} {meth : Method} {c : Code} {D : va_G} {cy : Nat → ClassId} {ad : ks_A} {En : Nat → Prop} {n0 : Nat → Prop} {σ0 : ks_S} {o : Int64} {out : ((Nat ⊕ Int32) × ks_S)} (C : ks_M p s m args meth c D cy ad En (fun k => ks_g k = 0) n0 σ0 o wsX4_row cX4_row RX4 3 (some .int)) (hlt : l.stackTraces = false) (hN : ks_N n0 s) (hexc : ∀ x ∈ c.exceptionTable.toList, False) {σ : ks_S} {x1 : Int32} {x2 : Int32}  (hf : f_X4_row σ x1 x2 = some out) {H : Heap} {locs : List Loc} {ls : Array Slot} (hW : ks_W D cy ad En σ o H) (hS : va_S (ks_F n0) s.heap H locs) (hl : lv_has ls 3 [(0, .ref (ad 0 0 0)), (1, .int x1), (2, .int x2)]) : W p l e (ks_Rm 6 1 6 81) s m args below meth c H locs 0 0 (vx_MQ below (ks_Yi D cy ad En n0 o out) (ks_X D cy ad En n0 o out) args s 1 6 (ks_F n0)) (F0 m 0 ls []) := by
  obtain ⟨hx, hb, hml, hr, hown, hts, hlocks, hG, hU0, hE⟩ := id C
  have hK := hU0.2.2
  unfold f_X4_row at hf
  refine lv_iload_n hx hb dX4_row_0 rfl (lv_at hl 1 rfl) ?_
  refine lv_iconst (v := 0) hx hb dX4_row_1 (by decide) ?_
  refine lv_bipush (v := 7) hx hb dX4_row_2 (by decide) ?_
  obtain ⟨⟨r3, s2⟩, hc1, hf⟩ := ks_bind hf
  try dsimp only at hf
  refine ks_calli (va_runS (As := [.int x1, .int 0, .int 7]) (rest := []) ⟨hx, hb, hml, hown, hts⟩ (m_X4_isWithin l D cy ad En n0 hG hE o hc1) (va_cwS 3 hts gX4_row_X4_isWithin rfl rfl rfl (by decide +kernel) ⟨(Nat.le_of_ble_eq_true rfl), (Nat.le_of_ble_eq_true rfl)⟩) ⟨ks_U.blind, fun U hU hWm => ⟨rfl, hU0.now hS hW hWm.alike hU⟩⟩ rfl rfl hl.1 rfl (lv_room (Nat.le_of_ble_eq_true rfl)) dX4_row_4 ⟨(Nat.le_of_ble_eq_true rfl), (Nat.le_of_ble_eq_true rfl)⟩) hS (fun H locs hW hS => ?_)
  refine lv_if_ne (tgt := 18) hx hb dX4_row_7 (by decide) (fun c4 => ?_) (fun c4 => ?_)
  · rw [if_neg c4] at hf
    refine lv_aload_n hx hb dX4_row_18 rfl (lv_at hl 0 rfl) ?_
    refine lv_iload_n hx hb dX4_row_19 rfl (lv_at hl 1 rfl) ?_
    obtain ⟨⟨⟨r7, r7j⟩, s6⟩, hc5, hf⟩ := ks_bind hf
    try dsimp only at hf
    refine ks_callr (va_runV (As := [.int x1]) (rest := []) ⟨hx, hb, hml, hown, hts⟩ (m_X4_rowOf l D cy ad En n0 hG hE o hc5) (cwV 1 hts gX4_row_X4_rowOf rfl rfl rfl (by decide +kernel) ⟨(Nat.le_of_ble_eq_true rfl), (Nat.le_of_ble_eq_true rfl)⟩) ⟨ks_U.blind, ks_recv hK hW (ks_v0 (i := 0) (j := 0) (hE 0 rfl)) (ks_c0 cy ad o 0 0 _) rfl, fun U hU hWm => ⟨rfl, hU0.now hS hW hWm.alike hU⟩⟩ rfl rfl hl.1 rfl (lv_room (Nat.le_of_ble_eq_true rfl)) dX4_row_20 ⟨(Nat.le_of_ble_eq_true rfl), (Nat.le_of_ble_eq_true rfl)⟩) hS (fun H locs hv8 hW hS => ?_)
    obtain rfl : r7j = 0 := ks_j0 hv8 rfl
    refine lv_iload_n hx hb dX4_row_23 rfl (lv_at hl 2 rfl) ?_
    obtain ⟨⟨r11, s10⟩, hc9, hf⟩ := ks_bind hf
    try dsimp only at hf
    refine ks_calli (va_runV (As := [.int x2]) (rest := []) ⟨hx, hb, hml, hown, hts⟩ (m_X2_coreAt l D cy ad En n0 hG hE o hv8 hc9) (cwV 1 hts gX4_row_X2_coreAt rfl rfl rfl (by decide +kernel) ⟨(Nat.le_of_ble_eq_true rfl), (Nat.le_of_ble_eq_true rfl)⟩) ⟨ks_U.blind, ks_recv hK hW hv8 (ks_c12 cy ad o r7 0 _) rfl, fun U hU hWm => ⟨rfl, hU0.now hS hW hWm.alike hU⟩⟩ rfl rfl hl.1 rfl (lv_room (Nat.le_of_ble_eq_true rfl)) dX4_row_24 ⟨(Nat.le_of_ble_eq_true rfl), (Nat.le_of_ble_eq_true rfl)⟩) hS (fun H locs hW hS => ?_)
    exact ks_yiret (Nat.le_of_ble_eq_true rfl) (Nat.le_of_ble_eq_true rfl) C hf hW hS dX4_row_27
  · rw [if_pos c4] at hf
    exact ks_throw (ik := 48) (ic := 50) 0 hlt hN hexc C rfl (by decide +kernel) (by decide +kernel) (by decide +kernel) (by decide +kernel) ks_at0 ks_ag0 hf hW hS hl.1 dX4_row_10 dX4_row_13 dX4_row_14 dX4_row_17 ⟨(Nat.le_of_ble_eq_true rfl), (Nat.le_of_ble_eq_true rfl), (Nat.le_of_ble_eq_true rfl), (Nat.le_of_ble_eq_true rfl)⟩ (Nat.le_of_ble_eq_true rfl) (Nat.le_of_ble_eq_true rfl)
set_option maxHeartbeats 4000000 in
set_option maxRecDepth 100000 in
theorem m_X4_row (l : Launch) (hlt : l.stackTraces = false) (D : va_G) (cy : Nat → ClassId) (ad : ks_A) (En : Nat → Prop) (n0 : Nat → Prop) (hG : ks_G ad En n0) (hE : ∀ k, ks_g k = 0 → En k) (o : Int64) {σ : ks_S} {x1 : Int32} {x2 : Int32}  {out : ((Nat ⊕ Int32) × ks_S)} (hf : f_X4_row σ x1 x2 = some out) : vx_Met l yX4_row wsX4_row (ks_Rm 6 1 6 81) (va_Pc [.ref (ad 0 0 0), .int x1, .int x2] (ks_UN D cy ad En n0 σ o)) (ks_Yi D cy ad En n0 o out) (ks_X D cy ad En n0 o out) 1 6 (ks_F n0) := by
  refine vx_ofW (cc := cX4_row) (maxL := 3) (ret := some .int) (by decide) rfl ?_
  intro p e s m args below meth c s₁ B hml hexc hv
  obtain ⟨rfl, hU, hN⟩ := hv
  have hl := lv_entry ([.ref (ad 0 0 0), .int x1, .int x2]) (n := 3) (Nat.le_of_ble_eq_true rfl)
  rw [lg_entry_eq]
  generalize (lg_sl ([.ref (ad 0 0 0), .int x1, .int x2]) ++ List.replicate (3 - (lg_sl ([.ref (ad 0 0 0), .int x1, .int x2])).length) Slot.unset).toArray = ls at hl ⊢
  exact t_X4_row ⟨B.exec, B.bytes, hml, B.returns, findClass_of_methodNamed B.named, atoms_spec (ws := wsX4_row) B.pre, B.notSynchronized, hG, hU, hE⟩ hlt hN hexc  hf hU.2.1 va_S.rf hl

/-! SpinKernel.jobs(II)I -/
def f_X4_jobs (σ : ks_S) (x1 : Int32) (x2 : Int32) : Option ((Nat ⊕ Int32) × ks_S) :=
  ((f_X4_taskAt σ x1).bind fun q5 => match q5 with | (.inl e4, s2) => some (.inl e4, s2) | (.inr (r3, r3j), s2) => (if x2 = 0 then some (.inr ((s2 9 r3 0 8)), s2) else (if x2 = 1 then some (.inr ((s2 9 r3 0 10)), s2) else (if x2 = 2 then some (.inr ((s2 9 r3 0 11)), s2) else (if x2 = 3 then (if ((s2 9 r3 0 1)) = 0 then some (.inr 0, s2) else some (.inr 1, s2)) else some (.inl 2, s2))))))
theorem in_X4_jobs_0 : ∀ w ∈ wsX00, w ∈ wsX4_jobs := by decide +kernel
theorem in_X4_jobs_3 : ∀ w ∈ wsX30, w ∈ wsX4_jobs := by decide +kernel
set_option maxHeartbeats 4000000 in
set_option maxRecDepth 100000 in
theorem t_X4_jobs {p : Program} {l : Launch} {e : Env} {s : State} {m : MethodId} {args : Array Value} {below : List Frame} {meth : Method} {c : Code} {D : va_G} {cy : Nat → ClassId} {ad : ks_A} {En : Nat → Prop} {n0 : Nat → Prop} {σ0 : ks_S} {o : Int64} {out : ((Nat ⊕ Int32) × ks_S)} (C : ks_M p s m args meth c D cy ad En (fun k => ks_g k = 0) n0 σ0 o wsX4_jobs cX4_jobs RX4 4 (some .int)) (hlt : l.stackTraces = false) (hN : ks_N n0 s) (hexc : ∀ x ∈ c.exceptionTable.toList, False) {σ : ks_S} {x1 : Int32} {x2 : Int32}  (hf : f_X4_jobs σ x1 x2 = some out) {H : Heap} {locs : List Loc} {ls : Array Slot} (hW : ks_W D cy ad En σ o H) (hS : va_S (ks_F n0) s.heap H locs) (hl : lv_has ls 4 [(0, .ref (ad 0 0 0)), (1, .int x1), (2, .int x2)]) : W p l e (ks_Rm 7 2 12 102) s m args below meth c H locs 0 0 (vx_MQ below (ks_Yi D cy ad En n0 o out) (ks_X D cy ad En n0 o out) args s 2 12 (ks_F n0)) (F0 m 0 ls []) := by
  obtain ⟨hx, hb, hml, hr, hown, hts, hlocks, hG, hU0, hE⟩ := id C
  have hK := hU0.2.2
  unfold f_X4_jobs at hf
  refine lv_aload_n hx hb dX4_jobs_0 rfl (lv_at hl 0 rfl) ?_
  refine lv_iload_n hx hb dX4_jobs_1 rfl (lv_at hl 1 rfl) ?_
  obtain ⟨⟨e4 | ⟨r3, r3j⟩, s2⟩, hc1, hf⟩ := ks_bind hf
  · exact ks_xthrow (vx_runV (As := [.int x1]) (rest := []) ⟨hx, hb, hml, hown, hts⟩ (m_X4_taskAt l hlt D cy ad En n0 hG hE o hc1) (cwV 1 hts gX4_jobs_X4_taskAt rfl rfl rfl (by decide +kernel) ⟨(Nat.le_of_ble_eq_true rfl), (Nat.le_of_ble_eq_true rfl)⟩) ⟨ks_UN.blind, ks_recv hK hW (ks_v0 (i := 0) (j := 0) (hE 0 rfl)) (ks_c0 cy ad o 0 0 _) rfl, fun U hU hWm => ⟨rfl, ks_UN.now hU0 hN hS hW hWm.alike hU⟩⟩ rfl rfl hl.1 rfl (lv_room (Nat.le_of_ble_eq_true rfl)) dX4_jobs_2 ⟨(Nat.le_of_ble_eq_true rfl), (Nat.le_of_ble_eq_true rfl)⟩) ks_nor hS C hexc hf (Nat.le_of_ble_eq_true rfl) (Nat.le_of_ble_eq_true rfl)
  try dsimp only at hf
  refine ks_xcallr (vx_runV (As := [.int x1]) (rest := []) ⟨hx, hb, hml, hown, hts⟩ (m_X4_taskAt l hlt D cy ad En n0 hG hE o hc1) (cwV 1 hts gX4_jobs_X4_taskAt rfl rfl rfl (by decide +kernel) ⟨(Nat.le_of_ble_eq_true rfl), (Nat.le_of_ble_eq_true rfl)⟩) ⟨ks_UN.blind, ks_recv hK hW (ks_v0 (i := 0) (j := 0) (hE 0 rfl)) (ks_c0 cy ad o 0 0 _) rfl, fun U hU hWm => ⟨rfl, ks_UN.now hU0 hN hS hW hWm.alike hU⟩⟩ rfl rfl hl.1 rfl (lv_room (Nat.le_of_ble_eq_true rfl)) dX4_jobs_2 ⟨(Nat.le_of_ble_eq_true rfl), (Nat.le_of_ble_eq_true rfl)⟩) hS (fun H locs hv6 hW hS => ?_)
  obtain rfl : r3j = 0 := ks_j0 hv6 rfl
  refine va_get (D := D) (ci := 3) (v := .ref (ad 9 r3 0)) (C := RX3) (T := TX3) (N := 10) hx hb hts in_X4_jobs_3 hown hK (ks_P1 hW hv6 (ks_c8 cy ad o r3 0 _)) 0 rfl rfl 9 (by decide) (hts (.fieldLink RX4 119 "SpinKernel$Task" "job" "LSpinKernel$Job;") (by decide +kernel)) (fun _ h => h) rfl dX4_jobs_5 ?_
  refine lv_astore_n (lv' := [(3, .ref (ad 9 r3 0)), (0, .ref (ad 0 0 0)), (1, .int x1), (2, .int x2)]) hx hb dX4_jobs_8 rfl hl (by decide) rfl (fun ls hl => ?_)
  refine lv_iload_n hx hb dX4_jobs_9 rfl (lv_at hl 3 rfl) ?_
  by_cases c7 : x2 = 0
  · rw [if_pos c7] at hf
    refine lv_tableIn (off := 30) (tgt := 40) hx hb dX4_jobs_10 (by rw [c7]; decide) (by rw [c7]; decide) (by rw [c7]; decide) (by decide) ?_
    refine lv_aload_n hx hb dX4_jobs_40 rfl (lv_at hl 0 rfl) ?_
    refine va_get (D := D) (ci := 0) (v := .int (s2 9 r3 0 8)) (C := RX0) (T := TX0) (N := 12) hx hb hts in_X4_jobs_0 hown hK (ks_P1 hW (ks_v9 (j := 0) hv6.2.1 (hE 9 rfl)) (ks_c9 cy ad o r3 0 _)) 0 rfl rfl 8 (by decide) (hts (.fieldLink RX4 178 "SpinKernel$Job" "ended" "I") (by decide +kernel)) (fun _ h => h) rfl dX4_jobs_41 ?_
    exact ks_yiret (Nat.le_of_ble_eq_true rfl) (Nat.le_of_ble_eq_true rfl) C hf hW hS dX4_jobs_44
  rw [if_neg c7] at hf
  by_cases c8 : x2 = 1
  · rw [if_pos c8] at hf
    refine lv_tableIn (off := 35) (tgt := 45) hx hb dX4_jobs_10 (by rw [c8]; decide) (by rw [c8]; decide) (by rw [c8]; decide) (by decide) ?_
    refine lv_aload_n hx hb dX4_jobs_45 rfl (lv_at hl 0 rfl) ?_
    refine va_get (D := D) (ci := 0) (v := .int (s2 9 r3 0 10)) (C := RX0) (T := TX0) (N := 12) hx hb hts in_X4_jobs_0 hown hK (ks_P1 hW (ks_v9 (j := 0) hv6.2.1 (hE 9 rfl)) (ks_c9 cy ad o r3 0 _)) 0 rfl rfl 10 (by decide) (hts (.fieldLink RX4 181 "SpinKernel$Job" "greatestResponse" "I") (by decide +kernel)) (fun _ h => h) rfl dX4_jobs_46 ?_
    exact ks_yiret (Nat.le_of_ble_eq_true rfl) (Nat.le_of_ble_eq_true rfl) C hf hW hS dX4_jobs_49
  rw [if_neg c8] at hf
  by_cases c9 : x2 = 2
  · rw [if_pos c9] at hf
    refine lv_tableIn (off := 40) (tgt := 50) hx hb dX4_jobs_10 (by rw [c9]; decide) (by rw [c9]; decide) (by rw [c9]; decide) (by decide) ?_
    refine lv_aload_n hx hb dX4_jobs_50 rfl (lv_at hl 0 rfl) ?_
    refine va_get (D := D) (ci := 0) (v := .int (s2 9 r3 0 11)) (C := RX0) (T := TX0) (N := 12) hx hb hts in_X4_jobs_0 hown hK (ks_P1 hW (ks_v9 (j := 0) hv6.2.1 (hE 9 rfl)) (ks_c9 cy ad o r3 0 _)) 0 rfl rfl 11 (by decide) (hts (.fieldLink RX4 184 "SpinKernel$Job" "latestResponse" "I") (by decide +kernel)) (fun _ h => h) rfl dX4_jobs_51 ?_
    exact ks_yiret (Nat.le_of_ble_eq_true rfl) (Nat.le_of_ble_eq_true rfl) C hf hW hS dX4_jobs_54
  rw [if_neg c9] at hf
  by_cases c10 : x2 = 3
  · rw [if_pos c10] at hf
    refine lv_tableIn (off := 45) (tgt := 55) hx hb dX4_jobs_10 (by rw [c10]; decide) (by rw [c10]; decide) (by rw [c10]; decide) (by decide) ?_
    refine lv_aload_n hx hb dX4_jobs_55 rfl (lv_at hl 0 rfl) ?_
    refine va_get (D := D) (ci := 0) (v := .int (s2 9 r3 0 1)) (C := RX0) (T := TX0) (N := 12) hx hb hts in_X4_jobs_0 hown hK (ks_P1 hW (ks_v9 (j := 0) hv6.2.1 (hE 9 rfl)) (ks_c9 cy ad o r3 0 _)) 0 rfl rfl 1 (by decide) (hts (.fieldLink RX4 187 "SpinKernel$Job" "isOpen" "Z") (by decide +kernel)) (fun _ h => h) rfl dX4_jobs_56 ?_
    refine lv_if_eq (tgt := 66) hx hb dX4_jobs_59 (by decide) (fun c11 => ?_) (fun c11 => ?_)
    · rw [if_pos c11] at hf
      refine lv_iconst (v := 0) hx hb dX4_jobs_66 (by decide) ?_
      exact ks_yiret (Nat.le_of_ble_eq_true rfl) (Nat.le_of_ble_eq_true rfl) C hf hW hS dX4_jobs_67
    · rw [if_neg c11] at hf
      refine lv_iconst (v := 1) hx hb dX4_jobs_62 (by decide) ?_
      refine lv_goto (tgt := 67) hx hb dX4_jobs_63 (by decide) ?_
      exact ks_yiret (Nat.le_of_ble_eq_true rfl) (Nat.le_of_ble_eq_true rfl) C hf hW hS dX4_jobs_67
  rw [if_neg c10] at hf
  refine lv_tableOut (tgt := 68) hx hb dX4_jobs_10 (by have e0 := lv_neT c7 (show (0 : Int32).toInt = 0 by decide); have e1 := lv_neT c8 (show (1 : Int32).toInt = 1 by decide); have e2 := lv_neT c9 (show (2 : Int32).toInt = 2 by decide); have e3 := lv_neT c10 (show (3 : Int32).toInt = 3 by decide); omega) (by decide) ?_
  exact ks_throw (ik := 65) (ic := 67) 2 hlt hN hexc C rfl (by decide +kernel) (by decide +kernel) (by decide +kernel) (by decide +kernel) ks_at2 ks_ag2 hf hW hS hl.1 dX4_jobs_68 dX4_jobs_71 dX4_jobs_72 dX4_jobs_75 ⟨(Nat.le_of_ble_eq_true rfl), (Nat.le_of_ble_eq_true rfl), (Nat.le_of_ble_eq_true rfl), (Nat.le_of_ble_eq_true rfl)⟩ (Nat.le_of_ble_eq_true rfl) (Nat.le_of_ble_eq_true rfl)
set_option maxHeartbeats 4000000 in
set_option maxRecDepth 100000 in
theorem m_X4_jobs (l : Launch) (hlt : l.stackTraces = false) (D : va_G) (cy : Nat → ClassId) (ad : ks_A) (En : Nat → Prop) (n0 : Nat → Prop) (hG : ks_G ad En n0) (hE : ∀ k, ks_g k = 0 → En k) (o : Int64) {σ : ks_S} {x1 : Int32} {x2 : Int32}  {out : ((Nat ⊕ Int32) × ks_S)} (hf : f_X4_jobs σ x1 x2 = some out) : vx_Met l yX4_jobs wsX4_jobs (ks_Rm 7 2 12 102) (va_Pc [.ref (ad 0 0 0), .int x1, .int x2] (ks_UN D cy ad En n0 σ o)) (ks_Yi D cy ad En n0 o out) (ks_X D cy ad En n0 o out) 2 12 (ks_F n0) := by
  refine vx_ofW (cc := cX4_jobs) (maxL := 4) (ret := some .int) (by decide) rfl ?_
  intro p e s m args below meth c s₁ B hml hexc hv
  obtain ⟨rfl, hU, hN⟩ := hv
  have hl := lv_entry ([.ref (ad 0 0 0), .int x1, .int x2]) (n := 4) (Nat.le_of_ble_eq_true rfl)
  rw [lg_entry_eq]
  generalize (lg_sl ([.ref (ad 0 0 0), .int x1, .int x2]) ++ List.replicate (4 - (lg_sl ([.ref (ad 0 0 0), .int x1, .int x2])).length) Slot.unset).toArray = ls at hl ⊢
  exact t_X4_jobs ⟨B.exec, B.bytes, hml, B.returns, findClass_of_methodNamed B.named, atoms_spec (ws := wsX4_jobs) B.pre, B.notSynchronized, hG, hU, hE⟩ hlt hN hexc  hf hU.2.1 va_S.rf hl

/-! SpinKernel.spun(II)I -/
def f_X4_spun (σ : ks_S) (x1 : Int32) (x2 : Int32) : Option ((Nat ⊕ Int32) × ks_S) :=
  ((f_X4_taskAt σ x1).bind fun q5 => match q5 with | (.inl e4, s2) => some (.inl e4, s2) | (.inr (r3, r3j), s2) => ((f_X4_requestAt s2 r3 x2).bind fun q11 => match q11 with | (.inl e10, s8) => some (.inl e10, s8) | (.inr (r9, r9j), s8) => some (.inr ((s8 11 r9 r9j 7)), s8)))
theorem in_X4_spun_1 : ∀ w ∈ wsX10, w ∈ wsX4_spun := by decide +kernel
set_option maxHeartbeats 4000000 in
set_option maxRecDepth 100000 in
theorem t_X4_spun {p : Program} {l : Launch} {e : Env} {s : State} {m : MethodId} {args : Array Value} {below : List Frame} {meth : Method} {c : Code} {D : va_G} {cy : Nat → ClassId} {ad : ks_A} {En : Nat → Prop} {n0 : Nat → Prop} {σ0 : ks_S} {o : Int64} {out : ((Nat ⊕ Int32) × ks_S)} (C : ks_M p s m args meth c D cy ad En (fun k => ks_g k = 0) n0 σ0 o wsX4_spun cX4_spun RX4 3 (some .int)) (hlt : l.stackTraces = false) (hN : ks_N n0 s) (hexc : ∀ x ∈ c.exceptionTable.toList, False) {σ : ks_S} {x1 : Int32} {x2 : Int32}  (hf : f_X4_spun σ x1 x2 = some out) {H : Heap} {locs : List Loc} {ls : Array Slot} (hW : ks_W D cy ad En σ o H) (hS : va_S (ks_F n0) s.heap H locs) (hl : lv_has ls 3 [(0, .ref (ad 0 0 0)), (1, .int x1), (2, .int x2)]) : W p l e (ks_Rm 7 2 12 102) s m args below meth c H locs 0 0 (vx_MQ below (ks_Yi D cy ad En n0 o out) (ks_X D cy ad En n0 o out) args s 2 12 (ks_F n0)) (F0 m 0 ls []) := by
  obtain ⟨hx, hb, hml, hr, hown, hts, hlocks, hG, hU0, hE⟩ := id C
  have hK := hU0.2.2
  unfold f_X4_spun at hf
  refine lv_aload_n hx hb dX4_spun_0 rfl (lv_at hl 0 rfl) ?_
  refine lv_iload_n hx hb dX4_spun_1 rfl (lv_at hl 1 rfl) ?_
  obtain ⟨⟨e4 | ⟨r3, r3j⟩, s2⟩, hc1, hf⟩ := ks_bind hf
  · exact ks_xthrow (vx_runV (As := [.int x1]) (rest := []) ⟨hx, hb, hml, hown, hts⟩ (m_X4_taskAt l hlt D cy ad En n0 hG hE o hc1) (cwV 1 hts gX4_spun_X4_taskAt rfl rfl rfl (by decide +kernel) ⟨(Nat.le_of_ble_eq_true rfl), (Nat.le_of_ble_eq_true rfl)⟩) ⟨ks_UN.blind, ks_recv hK hW (ks_v0 (i := 0) (j := 0) (hE 0 rfl)) (ks_c0 cy ad o 0 0 _) rfl, fun U hU hWm => ⟨rfl, ks_UN.now hU0 hN hS hW hWm.alike hU⟩⟩ rfl rfl hl.1 rfl (lv_room (Nat.le_of_ble_eq_true rfl)) dX4_spun_2 ⟨(Nat.le_of_ble_eq_true rfl), (Nat.le_of_ble_eq_true rfl)⟩) ks_nor hS C hexc hf (Nat.le_of_ble_eq_true rfl) (Nat.le_of_ble_eq_true rfl)
  try dsimp only at hf
  refine ks_xcallr (vx_runV (As := [.int x1]) (rest := []) ⟨hx, hb, hml, hown, hts⟩ (m_X4_taskAt l hlt D cy ad En n0 hG hE o hc1) (cwV 1 hts gX4_spun_X4_taskAt rfl rfl rfl (by decide +kernel) ⟨(Nat.le_of_ble_eq_true rfl), (Nat.le_of_ble_eq_true rfl)⟩) ⟨ks_UN.blind, ks_recv hK hW (ks_v0 (i := 0) (j := 0) (hE 0 rfl)) (ks_c0 cy ad o 0 0 _) rfl, fun U hU hWm => ⟨rfl, ks_UN.now hU0 hN hS hW hWm.alike hU⟩⟩ rfl rfl hl.1 rfl (lv_room (Nat.le_of_ble_eq_true rfl)) dX4_spun_2 ⟨(Nat.le_of_ble_eq_true rfl), (Nat.le_of_ble_eq_true rfl)⟩) hS (fun H locs hv6 hW hS => ?_)
  obtain rfl : r3j = 0 := ks_j0 hv6 rfl
  refine lv_iload_n hx hb dX4_spun_5 rfl (lv_at hl 2 rfl) ?_
  obtain ⟨⟨e10 | ⟨r9, r9j⟩, s8⟩, hc7, hf⟩ := ks_bind hf
  · exact ks_xthrow (vx_runS (As := [.ref (ad 8 r3 0), .int x2]) (rest := []) ⟨hx, hb, hml, hown, hts⟩ (m_X4_requestAt l hlt D cy ad En n0 hG hE o hv6 hc7) (va_cwS 2 hts gX4_spun_X4_requestAt rfl rfl rfl (by decide +kernel) ⟨(Nat.le_of_ble_eq_true rfl), (Nat.le_of_ble_eq_true rfl)⟩) ⟨ks_UN.blind, fun U hU hWm => ⟨rfl, ks_UN.now hU0 hN hS hW hWm.alike hU⟩⟩ rfl rfl hl.1 rfl (lv_room (Nat.le_of_ble_eq_true rfl)) dX4_spun_6 ⟨(Nat.le_of_ble_eq_true rfl), (Nat.le_of_ble_eq_true rfl)⟩) ks_nor hS C hexc hf (Nat.le_of_ble_eq_true rfl) (Nat.le_of_ble_eq_true rfl)
  try dsimp only at hf
  refine ks_xcallr (vx_runS (As := [.ref (ad 8 r3 0), .int x2]) (rest := []) ⟨hx, hb, hml, hown, hts⟩ (m_X4_requestAt l hlt D cy ad En n0 hG hE o hv6 hc7) (va_cwS 2 hts gX4_spun_X4_requestAt rfl rfl rfl (by decide +kernel) ⟨(Nat.le_of_ble_eq_true rfl), (Nat.le_of_ble_eq_true rfl)⟩) ⟨ks_UN.blind, fun U hU hWm => ⟨rfl, ks_UN.now hU0 hN hS hW hWm.alike hU⟩⟩ rfl rfl hl.1 rfl (lv_room (Nat.le_of_ble_eq_true rfl)) dX4_spun_6 ⟨(Nat.le_of_ble_eq_true rfl), (Nat.le_of_ble_eq_true rfl)⟩) hS (fun H locs hv12 hW hS => ?_)
  refine va_get (D := D) (ci := 1) (v := .int (s8 11 r9 r9j 7)) (C := RX1) (T := TX1) (N := 8) hx hb hts in_X4_spun_1 hown hK (ks_P1 hW hv12 (ks_c11 cy ad o r9 r9j _)) 0 rfl rfl 7 (by decide) (hts (.fieldLink RX4 190 "SpinKernel$Request" "mostSpun" "I") (by decide +kernel)) (fun _ h => h) rfl dX4_spun_9 ?_
  exact ks_yiret (Nat.le_of_ble_eq_true rfl) (Nat.le_of_ble_eq_true rfl) C hf hW hS dX4_spun_12
set_option maxHeartbeats 4000000 in
set_option maxRecDepth 100000 in
theorem m_X4_spun (l : Launch) (hlt : l.stackTraces = false) (D : va_G) (cy : Nat → ClassId) (ad : ks_A) (En : Nat → Prop) (n0 : Nat → Prop) (hG : ks_G ad En n0) (hE : ∀ k, ks_g k = 0 → En k) (o : Int64) {σ : ks_S} {x1 : Int32} {x2 : Int32}  {out : ((Nat ⊕ Int32) × ks_S)} (hf : f_X4_spun σ x1 x2 = some out) : vx_Met l yX4_spun wsX4_spun (ks_Rm 7 2 12 102) (va_Pc [.ref (ad 0 0 0), .int x1, .int x2] (ks_UN D cy ad En n0 σ o)) (ks_Yi D cy ad En n0 o out) (ks_X D cy ad En n0 o out) 2 12 (ks_F n0) := by
  refine vx_ofW (cc := cX4_spun) (maxL := 3) (ret := some .int) (by decide) rfl ?_
  intro p e s m args below meth c s₁ B hml hexc hv
  obtain ⟨rfl, hU, hN⟩ := hv
  have hl := lv_entry ([.ref (ad 0 0 0), .int x1, .int x2]) (n := 3) (Nat.le_of_ble_eq_true rfl)
  rw [lg_entry_eq]
  generalize (lg_sl ([.ref (ad 0 0 0), .int x1, .int x2]) ++ List.replicate (3 - (lg_sl ([.ref (ad 0 0 0), .int x1, .int x2])).length) Slot.unset).toArray = ls at hl ⊢
  exact t_X4_spun ⟨B.exec, B.bytes, hml, B.returns, findClass_of_methodNamed B.named, atoms_spec (ws := wsX4_spun) B.pre, B.notSynchronized, hG, hU, hE⟩ hlt hN hexc  hf hU.2.1 va_S.rf hl

/-! SpinKernel.late()I -/
def f_X4_late_13 (N : Nat) : Nat → ks_S → Int32 → Int32 → Int32 → Option (Int32 × ks_S)
  | 0, _, _, _, _ => none
  | n + 1, σ, x1, x3, x4 => (if x3 ≤ x4 then some (x1, σ) else (if ks_in x4 16 = true then (if ((σ 9 ((x4.toNatClampNeg)) 0 1)) = 0 then f_X4_late_13 N n σ ((x1 + ((σ 9 ((x4.toNatClampNeg)) 0 9)))) x3 ((x4 + 1)) else (if ((((σ 0 0 0 7)) - ((σ 9 ((x4.toNatClampNeg)) 0 2)))) ≤ ((σ 8 ((x4.toNatClampNeg)) 0 4)) then f_X4_late_13 N n σ ((x1 + ((σ 9 ((x4.toNatClampNeg)) 0 9)))) x3 ((x4 + 1)) else f_X4_late_13 N n σ ((((x1 + ((σ 9 ((x4.toNatClampNeg)) 0 9)))) + 1)) x3 ((x4 + 1)))) else none))
def f_X4_late (N : Nat) (σ : ks_S)  : Option (Int32 × ks_S) :=
  f_X4_late_13 N N σ 0 16 0
theorem in_X4_late_0 : ∀ w ∈ wsX00, w ∈ wsX4_late := by decide +kernel
theorem in_X4_late_3 : ∀ w ∈ wsX30, w ∈ wsX4_late := by decide +kernel
theorem in_X4_late_4 : ∀ w ∈ wsX40, w ∈ wsX4_late := by decide +kernel
set_option maxHeartbeats 4000000 in
set_option maxRecDepth 100000 in
theorem t_X4_late_13 {p : Program} {l : Launch} {e : Env} {s : State} {m : MethodId} {args : Array Value} {below : List Frame} {meth : Method} {c : Code} {D : va_G} {cy : Nat → ClassId} {ad : ks_A} {En : Nat → Prop} {n0 : Nat → Prop} {σ0 : ks_S} {o : Int64} {N : Nat} {out : (Int32 × ks_S)} (C : ks_M p s m args meth c D cy ad En (fun k => ks_g k = 0) n0 σ0 o wsX4_late cX4_late RX4 6 (some .int)) : ∀ (n : Nat) (σ : ks_S) (x1 : Int32) (x3 : Int32) (x4 : Int32), f_X4_late_13 N n σ x1 x3 x4 = some out → ∀ {H : Heap} {locs : List Loc} {ls : Array Slot}, ks_W D cy ad En σ o H → va_S (ks_F n0) s.heap H locs → lv_has ls 6 [(0, .ref (ad 0 0 0)), (1, .int x1), (2, .ref (ad 1 0 0)), (3, .int x3), (4, .int x4)] → W p l e (ks_Rm 0 0 0 0) s m args below meth c H locs 0 0 (MQ below (ks_Qi D cy ad En n0 o out) args s 0 0 (ks_F n0)) (F0 m 13 ls []) := by
  obtain ⟨hx, hb, hml, hr, hown, hts, hlocks, hG, hU0, hE⟩ := id C
  have hK := hU0.2.2
  intro n
  induction n with
  | zero => intro σ x1 x3 x4; intro  hf; exact absurd hf (by simp [f_X4_late_13])
  | succ n hk13 =>
    intro σ x1 x3 x4  hf H locs ls hW hS hl
    rw [f_X4_late_13] at hf
    refine lv_iload hx hb dX4_late_13 (lv_at hl 4 rfl) ?_
    refine lv_iload_n hx hb dX4_late_15 rfl (lv_at hl 3 rfl) ?_
    refine lv_icmp_ge (tgt := 77) hx hb dX4_late_16 (by decide) (fun c1 => ?_) (fun c1 => ?_)
    · rw [if_pos c1] at hf
      refine lv_iload_n hx hb dX4_late_77 rfl (lv_at hl 1 rfl) ?_
      exact ks_iret C hf hW hS dX4_late_78
    · rw [if_neg c1] at hf
      refine lv_aload_n hx hb dX4_late_19 rfl (lv_at hl 2 rfl) ?_
      refine lv_iload hx hb dX4_late_20 (lv_at hl 4 rfl) ?_
      obtain ⟨hi2, hf⟩ := ks_guard hf
      refine ks_aald hx hb hK hW (ks_v1 (i := 0) (j := 0) (hE 1 rfl)) 3 (ks_c1 cy ad o 0 0 _) rfl rfl hi2 dX4_late_22 ?_
      refine lv_astore (lv' := [(5, .ref (ad 8 (x4.toNatClampNeg) 0)), (0, .ref (ad 0 0 0)), (1, .int x1), (2, .ref (ad 1 0 0)), (3, .int x3), (4, .int x4)]) hx hb dX4_late_23 hl (by decide) rfl (fun ls hl => ?_)
      refine lv_iload_n hx hb dX4_late_25 rfl (lv_at hl 2 rfl) ?_
      refine lv_aload hx hb dX4_late_26 (lv_at hl 0 rfl) ?_
      refine va_get (D := D) (ci := 3) (v := .ref (ad 9 (x4.toNatClampNeg) 0)) (C := RX3) (T := TX3) (N := 10) hx hb hts in_X4_late_3 hown hK (ks_P1 hW (ks_v8 (j := 0) (ks_in_lt hi2) (hE 8 rfl)) (ks_c8 cy ad o (x4.toNatClampNeg) 0 _)) 0 rfl rfl 9 (by decide) (hts (.fieldLink RX4 119 "SpinKernel$Task" "job" "LSpinKernel$Job;") (by decide +kernel)) (fun _ h => h) rfl dX4_late_28 ?_
      refine va_get (D := D) (ci := 0) (v := .int (σ 9 ((x4.toNatClampNeg)) 0 9)) (C := RX0) (T := TX0) (N := 12) hx hb hts in_X4_late_0 hown hK (ks_P1 hW (ks_v9 (j := 0) (ks_v8 (j := 0) (ks_in_lt hi2) (hE 8 rfl)).2.1 (hE 9 rfl)) (ks_c9 cy ad o (x4.toNatClampNeg) 0 _)) 0 rfl rfl 9 (by decide) (hts (.fieldLink RX4 193 "SpinKernel$Job" "endedLate" "I") (by decide +kernel)) (fun _ h => h) rfl dX4_late_31 ?_
      refine lv_iadd hx hb dX4_late_34 ?_
      refine lv_istore_n (lv' := [(1, .int (x1 + ((σ 9 ((x4.toNatClampNeg)) 0 9)))), (5, .ref (ad 8 (x4.toNatClampNeg) 0)), (0, .ref (ad 0 0 0)), (2, .ref (ad 1 0 0)), (3, .int x3), (4, .int x4)]) hx hb dX4_late_35 rfl hl (by decide) rfl (fun ls hl => ?_)
      refine lv_aload hx hb dX4_late_36 (lv_at hl 1 rfl) ?_
      refine va_get (D := D) (ci := 3) (v := .ref (ad 9 (x4.toNatClampNeg) 0)) (C := RX3) (T := TX3) (N := 10) hx hb hts in_X4_late_3 hown hK (ks_P1 hW (ks_v8 (j := 0) (ks_in_lt hi2) (hE 8 rfl)) (ks_c8 cy ad o (x4.toNatClampNeg) 0 _)) 0 rfl rfl 9 (by decide) (hts (.fieldLink RX4 119 "SpinKernel$Task" "job" "LSpinKernel$Job;") (by decide +kernel)) (fun _ h => h) rfl dX4_late_38 ?_
      refine va_get (D := D) (ci := 0) (v := .int (σ 9 ((x4.toNatClampNeg)) 0 1)) (C := RX0) (T := TX0) (N := 12) hx hb hts in_X4_late_0 hown hK (ks_P1 hW (ks_v9 (j := 0) (ks_v8 (j := 0) (ks_in_lt hi2) (hE 8 rfl)).2.1 (hE 9 rfl)) (ks_c9 cy ad o (x4.toNatClampNeg) 0 _)) 0 rfl rfl 1 (by decide) (hts (.fieldLink RX4 187 "SpinKernel$Job" "isOpen" "Z") (by decide +kernel)) (fun _ h => h) rfl dX4_late_41 ?_
      refine lv_if_eq (tgt := 71) hx hb dX4_late_44 (by decide) (fun c3 => ?_) (fun c3 => ?_)
      · rw [if_pos c3] at hf
        refine lv_iinc (v := (x4 + 1)) (lv' := [(4, .int (x4 + 1)), (1, .int (x1 + ((σ 9 ((x4.toNatClampNeg)) 0 9)))), (5, .ref (ad 8 (x4.toNatClampNeg) 0)), (0, .ref (ad 0 0 0)), (2, .ref (ad 1 0 0)), (3, .int x3)]) hx hb dX4_late_71 hl (k := 5) rfl rfl (by decide) rfl (fun ls hl => ?_)
        refine lv_goto (tgt := 13) hx hb dX4_late_74 (by decide) ?_
        exact hk13 _ _ _ _ hf hW hS (lv_sub hl [3, 1, 4, 5, 0] rfl)
      · rw [if_neg c3] at hf
        refine lv_aload_n hx hb dX4_late_47 rfl (lv_at hl 2 rfl) ?_
        refine va_get (D := D) (ci := 4) (v := .int (σ 0 0 0 7)) (C := RX4) (T := TX4) (N := 8) hx hb hts in_X4_late_4 hown hK (ks_P1 hW (ks_v0 (i := 0) (j := 0) (hE 0 rfl)) (ks_c0 cy ad o 0 0 _)) 0 rfl rfl 7 (by decide) (hts (.fieldLink RX4 113 "SpinKernel" "now" "I") (by decide +kernel)) (fun _ h => h) rfl dX4_late_48 ?_
        refine lv_aload hx hb dX4_late_51 (lv_at hl 1 rfl) ?_
        refine va_get (D := D) (ci := 3) (v := .ref (ad 9 (x4.toNatClampNeg) 0)) (C := RX3) (T := TX3) (N := 10) hx hb hts in_X4_late_3 hown hK (ks_P1 hW (ks_v8 (j := 0) (ks_in_lt hi2) (hE 8 rfl)) (ks_c8 cy ad o (x4.toNatClampNeg) 0 _)) 0 rfl rfl 9 (by decide) (hts (.fieldLink RX4 119 "SpinKernel$Task" "job" "LSpinKernel$Job;") (by decide +kernel)) (fun _ h => h) rfl dX4_late_53 ?_
        refine va_get (D := D) (ci := 0) (v := .int (σ 9 ((x4.toNatClampNeg)) 0 2)) (C := RX0) (T := TX0) (N := 12) hx hb hts in_X4_late_0 hown hK (ks_P1 hW (ks_v9 (j := 0) (ks_v8 (j := 0) (ks_in_lt hi2) (hE 8 rfl)).2.1 (hE 9 rfl)) (ks_c9 cy ad o (x4.toNatClampNeg) 0 _)) 0 rfl rfl 2 (by decide) (hts (.fieldLink RX4 128 "SpinKernel$Job" "cameAt" "I") (by decide +kernel)) (fun _ h => h) rfl dX4_late_56 ?_
        refine lv_isub hx hb dX4_late_59 ?_
        refine lv_aload hx hb dX4_late_60 (lv_at hl 1 rfl) ?_
        refine va_get (D := D) (ci := 3) (v := .int (σ 8 ((x4.toNatClampNeg)) 0 4)) (C := RX3) (T := TX3) (N := 10) hx hb hts in_X4_late_3 hown hK (ks_P1 hW (ks_v8 (j := 0) (ks_in_lt hi2) (hE 8 rfl)) (ks_c8 cy ad o (x4.toNatClampNeg) 0 _)) 0 rfl rfl 4 (by decide) (hts (.fieldLink RX4 196 "SpinKernel$Task" "deadline" "I") (by decide +kernel)) (fun _ h => h) rfl dX4_late_62 ?_
        refine lv_icmp_le (tgt := 71) hx hb dX4_late_65 (by decide) (fun c4 => ?_) (fun c4 => ?_)
        · rw [if_pos c4] at hf
          refine lv_iinc (v := (x4 + 1)) (lv' := [(4, .int (x4 + 1)), (1, .int (x1 + ((σ 9 ((x4.toNatClampNeg)) 0 9)))), (5, .ref (ad 8 (x4.toNatClampNeg) 0)), (0, .ref (ad 0 0 0)), (2, .ref (ad 1 0 0)), (3, .int x3)]) hx hb dX4_late_71 hl (k := 5) rfl rfl (by decide) rfl (fun ls hl => ?_)
          refine lv_goto (tgt := 13) hx hb dX4_late_74 (by decide) ?_
          exact hk13 _ _ _ _ hf hW hS (lv_sub hl [3, 1, 4, 5, 0] rfl)
        · rw [if_neg c4] at hf
          refine lv_iinc (v := (((x1 + ((σ 9 ((x4.toNatClampNeg)) 0 9)))) + 1)) (lv' := [(1, .int (((x1 + ((σ 9 ((x4.toNatClampNeg)) 0 9)))) + 1)), (5, .ref (ad 8 (x4.toNatClampNeg) 0)), (0, .ref (ad 0 0 0)), (2, .ref (ad 1 0 0)), (3, .int x3), (4, .int x4)]) hx hb dX4_late_68 hl (k := 0) rfl rfl (by decide) rfl (fun ls hl => ?_)
          refine lv_iinc (v := (x4 + 1)) (lv' := [(4, .int (x4 + 1)), (1, .int (((x1 + ((σ 9 ((x4.toNatClampNeg)) 0 9)))) + 1)), (5, .ref (ad 8 (x4.toNatClampNeg) 0)), (0, .ref (ad 0 0 0)), (2, .ref (ad 1 0 0)), (3, .int x3)]) hx hb dX4_late_71 hl (k := 5) rfl rfl (by decide) rfl (fun ls hl => ?_)
          refine lv_goto (tgt := 13) hx hb dX4_late_74 (by decide) ?_
          exact hk13 _ _ _ _ hf hW hS (lv_sub hl [3, 1, 4, 5, 0] rfl)
set_option maxHeartbeats 4000000 in
set_option maxRecDepth 100000 in
theorem t_X4_late {p : Program} {l : Launch} {e : Env} {s : State} {m : MethodId} {args : Array Value} {below : List Frame} {meth : Method} {c : Code} {D : va_G} {cy : Nat → ClassId} {ad : ks_A} {En : Nat → Prop} {n0 : Nat → Prop} {σ0 : ks_S} {o : Int64} {N : Nat} {out : (Int32 × ks_S)} (C : ks_M p s m args meth c D cy ad En (fun k => ks_g k = 0) n0 σ0 o wsX4_late cX4_late RX4 6 (some .int)) {σ : ks_S}   (hf : f_X4_late N σ  = some out) {H : Heap} {locs : List Loc} {ls : Array Slot} (hW : ks_W D cy ad En σ o H) (hS : va_S (ks_F n0) s.heap H locs) (hl : lv_has ls 6 [(0, .ref (ad 0 0 0))]) : W p l e (ks_Rm 0 0 0 0) s m args below meth c H locs 0 0 (MQ below (ks_Qi D cy ad En n0 o out) args s 0 0 (ks_F n0)) (F0 m 0 ls []) := by
  obtain ⟨hx, hb, hml, hr, hown, hts, hlocks, hG, hU0, hE⟩ := id C
  have hK := hU0.2.2
  unfold f_X4_late at hf
  refine lv_iconst (v := 0) hx hb dX4_late_0 (by decide) ?_
  refine lv_istore_n (lv' := [(1, .int 0), (0, .ref (ad 0 0 0))]) hx hb dX4_late_1 rfl hl (by decide) rfl (fun ls hl => ?_)
  refine lv_aload_n hx hb dX4_late_2 rfl (lv_at hl 1 rfl) ?_
  refine va_get (D := D) (ci := 4) (v := .ref (ad 1 0 0)) (C := RX4) (T := TX4) (N := 8) hx hb hts in_X4_late_4 hown hK (ks_P1 hW (ks_v0 (i := 0) (j := 0) (hE 0 rfl)) (ks_c0 cy ad o 0 0 _)) 0 rfl rfl 0 (by decide) (hts (.fieldLink RX4 11 "SpinKernel" "tasks" "[LSpinKernel$Task;") (by decide +kernel)) (fun _ h => h) rfl dX4_late_3 ?_
  refine lv_astore_n (lv' := [(2, .ref (ad 1 0 0)), (1, .int 0), (0, .ref (ad 0 0 0))]) hx hb dX4_late_6 rfl hl (by decide) rfl (fun ls hl => ?_)
  refine lv_aload_n hx hb dX4_late_7 rfl (lv_at hl 0 rfl) ?_
  refine ks_alen hx hb hK hW (ks_v1 (i := 0) (j := 0) (hE 1 rfl)) 3 (ks_c1 cy ad o 0 0 _) rfl (v := 16) rfl dX4_late_8 ?_
  refine lv_istore_n (lv' := [(3, .int 16), (2, .ref (ad 1 0 0)), (1, .int 0), (0, .ref (ad 0 0 0))]) hx hb dX4_late_9 rfl hl (by decide) rfl (fun ls hl => ?_)
  refine lv_iconst (v := 0) hx hb dX4_late_10 (by decide) ?_
  refine lv_istore (lv' := [(4, .int 0), (3, .int 16), (2, .ref (ad 1 0 0)), (1, .int 0), (0, .ref (ad 0 0 0))]) hx hb dX4_late_11 hl (by decide) rfl (fun ls hl => ?_)
  exact t_X4_late_13 C _ _ _ _ _  hf hW hS (lv_sub hl [4, 3, 2, 1, 0] rfl)
set_option maxHeartbeats 4000000 in
set_option maxRecDepth 100000 in
theorem m_X4_late (l : Launch) (D : va_G) (cy : Nat → ClassId) (ad : ks_A) (En : Nat → Prop) (n0 : Nat → Prop) (hG : ks_G ad En n0) (hE : ∀ k, ks_g k = 0 → En k) (o : Int64) {N : Nat} {σ : ks_S}   {out : (Int32 × ks_S)} (hf : f_X4_late N σ  = some out) : Met l yX4_late wsX4_late (ks_Rm 0 0 0 0) (va_Pc [.ref (ad 0 0 0)] (ks_U D cy ad En n0 σ o)) (ks_Qi D cy ad En n0 o out) 0 0 (ks_F n0) := by
  refine Met.ofW (cc := cX4_late) (maxL := 6) (ret := some .int) (by decide) rfl ?_
  intro p e s m args below meth c s₁ B hml hv
  obtain ⟨rfl, hU⟩ := hv
  have hl := lv_entry ([.ref (ad 0 0 0)]) (n := 6) (Nat.le_of_ble_eq_true rfl)
  rw [lg_entry_eq]
  generalize (lg_sl ([.ref (ad 0 0 0)]) ++ List.replicate (6 - (lg_sl ([.ref (ad 0 0 0)])).length) Slot.unset).toArray = ls at hl ⊢
  exact t_X4_late ⟨B.exec, B.bytes, hml, B.returns, findClass_of_methodNamed B.named, atoms_spec (ws := wsX4_late) B.pre, B.notSynchronized, hG, hU, hE⟩  hf hU.2.1 va_S.rf hl
