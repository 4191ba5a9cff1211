def f_L_task (N : Nat) (σ : ks_S) (o : Int64) (x1 : Int32) (x2 : Int32) (x3 : Int32) (x4 : Int32) (x5 : Int32) (x6 : Int32) : Option (Int32 × (ks_S × Int64)) :=
  (f_X4_task N σ x1 x2 x3 x4 x5 x6).bind fun q1 => match q1 with | (.inl e1, s1) => if e1 = 0 then some (1, (s1, o)) else if e1 = 1 then some (2, (s1, o)) else if e1 = 2 then some (3, (s1, o)) else none | (.inr (), s1) => some (0, (s1, o))
set_option maxHeartbeats 4000000 in
set_option maxRecDepth 100000 in
theorem m_L_task (l : Launch) (hlt : l.stackTraces = false) (D : va_G) (cy : Nat → ClassId) (ad : ks_A) (En : Nat → Prop) (n0 : Nat → Prop) (hG : ks_G ad En n0) (hE : ∀ k, En k) (o : Int64) {N : Nat} {σ : ks_S} {x1 : Int32} {x2 : Int32} {x3 : Int32} {x4 : Int32} {x5 : Int32} {x6 : Int32} {out : Int32 × (ks_S × Int64)} (hf : f_L_task N σ o x1 x2 x3 x4 x5 x6 = some out) : vx_Met l yL_task wsL_task (ks_Rm 7 1 6 116) (va_Pc [.ref (ad 0 0 0), .int x1, .int x2, .int x3, .int x4, .int x5, .int x6] (ks_UL D cy ad En n0 σ o)) (ks_Li D cy ad En n0 out) (ks_LX n0) 1 6 (ks_F n0) := by
  refine vx_ofWH (cc := cL_task) (maxL := 8) (ret := some .int) (hh := [(0, 13, 16, 13), (0, 13, 20, 15), (0, 13, 24, 17)]) (by decide) rfl ?_
  intro p e s m args below meth c s₁ B hml hv
  obtain ⟨rfl, hU, hN, hNC⟩ := hv
  have hx := B.exec
  have hb := B.bytes
  have hr := B.returns
  have hown : s.vm.findClass RL = some m.cls := findClass_of_methodNamed B.named
  have hts := atoms_spec (ws := wsL_task) B.pre
  have hlocks := B.notSynchronized
  have htab : c.exceptionTable.toList = tableOf [(0, 13, 16, 13), (0, 13, 20, 15), (0, 13, 24, 17)] := vx_table (x := yL_task) B (hts _ List.mem_cons_self)
  have hK := hU.2.2
  have hW := hU.2.1
  have hS : va_S (ks_F n0) s.heap s.heap [] := va_S.rf
  have hl := lv_entry ([.ref (ad 0 0 0), .int x1, .int x2, .int x3, .int x4, .int x5, .int x6]) (n := 8) (Nat.le_of_ble_eq_true rfl)
  rw [lg_entry_eq]
  generalize (lg_sl ([.ref (ad 0 0 0), .int x1, .int x2, .int x3, .int x4, .int x5, .int x6]) ++ List.replicate (8 - (lg_sl ([.ref (ad 0 0 0), .int x1, .int x2, .int x3, .int x4, .int x5, .int x6])).length) Slot.unset).toArray = ls at hl ⊢
  unfold f_L_task at hf
  refine lv_aload_n hx hb dL_task_0 rfl (lv_at hl 0 rfl) ?_
  refine lv_iload_n hx hb dL_task_1 rfl (lv_at hl 1 rfl) ?_
  refine lv_iload_n hx hb dL_task_2 rfl (lv_at hl 2 rfl) ?_
  refine lv_iload_n hx hb dL_task_3 rfl (lv_at hl 3 rfl) ?_
  refine lv_iload hx hb dL_task_4 (lv_at hl 4 rfl) ?_
  refine lv_iload hx hb dL_task_6 (lv_at hl 5 rfl) ?_
  refine lv_iload hx hb dL_task_8 (lv_at hl 6 rfl) ?_
  obtain ⟨⟨e1 | _, s1⟩, hc, hf⟩ := ks_bind hf
  · try dsimp only at hf
    refine ks_xcatch (vx_runV (As := [.int x1, .int x2, .int x3, .int x4, .int x5, .int x6]) (rest := []) ⟨hx, hb, hml, hown, hts⟩ (m_X4_task l hlt D cy ad En n0 hG (fun k _ => hE k) o hc) (cwV 6 hts gL_task_X4_task rfl rfl rfl (by decide +kernel) ⟨(Nat.le_of_ble_eq_true rfl), (Nat.le_of_ble_eq_true rfl)⟩) ⟨ks_UN.blind, ks_recv hK hW (ks_v0 (i := 0) (j := 0) (hE 0)) (ks_c0 cy ad o 0 0 _) rfl, fun U hU9 hWm => ⟨rfl, ks_UN.now hU hN hS hW hWm.alike hU9⟩⟩ rfl rfl hl.1 rfl (lv_room (Nat.le_of_ble_eq_true rfl)) dL_task_10 ⟨(Nat.le_of_ble_eq_true rfl), (Nat.le_of_ble_eq_true rfl)⟩) ks_nov hS (fun H locs ce q9 hW hS hce hcv hcl => ?_)
    by_cases h0 : e1 = 0
    · rw [if_pos h0] at hf
      subst h0
      refine vx_catch (own := RL) (name := "java/lang/IndexOutOfBoundsException") (E := ks_E 0) hown [] ⟨0, 13, 16, 13⟩ [⟨0, 13, 20, 15⟩, ⟨0, 13, 24, 17⟩] htab (fun z hz => nomatch hz) (by decide) (by decide) (hts (.classLink RL 13 "java/lang/IndexOutOfBoundsException") (by decide +kernel)) (va_Nw.use rfl (hN.1 (.castable "java/lang/IndexOutOfBoundsException" "java/lang/IndexOutOfBoundsException") (by decide +kernel))) hce hcv hcl ?_
      refine lv_astore (lv' := [(7, .ref q9), (0, .ref (ad 0 0 0)), (1, .int x1), (2, .int x2), (3, .int x3), (4, .int x4), (5, .int x5), (6, .int x6)]) hx hb dL_task_16 hl (by decide) rfl (fun ls hl => ?_)
      refine lv_iconst (v := 1) hx hb dL_task_18 (by decide) ?_
      exact ks_lret hx hb hr hlocks hU.1 hK (Nat.le_of_ble_eq_true rfl) (Nat.le_of_ble_eq_true rfl) hf hW hS dL_task_19
    rw [if_neg h0] at hf
    by_cases h1 : e1 = 1
    · rw [if_pos h1] at hf
      subst h1
      refine vx_catch (own := RL) (name := "java/lang/IllegalStateException") (E := ks_E 1) hown [⟨0, 13, 16, 13⟩] ⟨0, 13, 20, 15⟩ [⟨0, 13, 24, 17⟩] htab (List.forall_mem_cons.2 ⟨Or.inr ⟨by decide, "java/lang/IndexOutOfBoundsException", hts (.classLink RL 13 "java/lang/IndexOutOfBoundsException") (by decide +kernel), hNC ("java/lang/IllegalStateException", "java/lang/IndexOutOfBoundsException") (by decide +kernel)⟩, (fun z hz => nomatch hz)⟩) (by decide) (by decide) (hts (.classLink RL 15 "java/lang/IllegalStateException") (by decide +kernel)) (va_Nw.use rfl (hN.1 (.castable "java/lang/IllegalStateException" "java/lang/IllegalStateException") (by decide +kernel))) hce hcv hcl ?_
      refine lv_astore (lv' := [(7, .ref q9), (0, .ref (ad 0 0 0)), (1, .int x1), (2, .int x2), (3, .int x3), (4, .int x4), (5, .int x5), (6, .int x6)]) hx hb dL_task_20 hl (by decide) rfl (fun ls hl => ?_)
      refine lv_iconst (v := 2) hx hb dL_task_22 (by decide) ?_
      exact ks_lret hx hb hr hlocks hU.1 hK (Nat.le_of_ble_eq_true rfl) (Nat.le_of_ble_eq_true rfl) hf hW hS dL_task_23
    rw [if_neg h1] at hf
    by_cases h2 : e1 = 2
    · rw [if_pos h2] at hf
      subst h2
      refine vx_catch (own := RL) (name := "java/lang/IllegalArgumentException") (E := ks_E 2) hown [⟨0, 13, 16, 13⟩, ⟨0, 13, 20, 15⟩] ⟨0, 13, 24, 17⟩ [] htab (List.forall_mem_cons.2 ⟨Or.inr ⟨by decide, "java/lang/IndexOutOfBoundsException", hts (.classLink RL 13 "java/lang/IndexOutOfBoundsException") (by decide +kernel), hNC ("java/lang/IllegalArgumentException", "java/lang/IndexOutOfBoundsException") (by decide +kernel)⟩, (List.forall_mem_cons.2 ⟨Or.inr ⟨by decide, "java/lang/IllegalStateException", hts (.classLink RL 15 "java/lang/IllegalStateException") (by decide +kernel), hNC ("java/lang/IllegalArgumentException", "java/lang/IllegalStateException") (by decide +kernel)⟩, (fun z hz => nomatch hz)⟩)⟩) (by decide) (by decide) (hts (.classLink RL 17 "java/lang/IllegalArgumentException") (by decide +kernel)) (va_Nw.use rfl (hN.1 (.castable "java/lang/IllegalArgumentException" "java/lang/IllegalArgumentException") (by decide +kernel))) hce hcv hcl ?_
      refine lv_astore (lv' := [(7, .ref q9), (0, .ref (ad 0 0 0)), (1, .int x1), (2, .int x2), (3, .int x3), (4, .int x4), (5, .int x5), (6, .int x6)]) hx hb dL_task_24 hl (by decide) rfl (fun ls hl => ?_)
      refine lv_iconst (v := 3) hx hb dL_task_26 (by decide) ?_
      exact ks_lret hx hb hr hlocks hU.1 hK (Nat.le_of_ble_eq_true rfl) (Nat.le_of_ble_eq_true rfl) hf hW hS dL_task_27
    rw [if_neg h2] at hf
    exact absurd hf (by simp)
  try dsimp only at hf
  refine ks_xcallv (vx_runV (As := [.int x1, .int x2, .int x3, .int x4, .int x5, .int x6]) (rest := []) ⟨hx, hb, hml, hown, hts⟩ (m_X4_task l hlt D cy ad En n0 hG (fun k _ => hE k) o hc) (cwV 6 hts gL_task_X4_task rfl rfl rfl (by decide +kernel) ⟨(Nat.le_of_ble_eq_true rfl), (Nat.le_of_ble_eq_true rfl)⟩) ⟨ks_UN.blind, ks_recv hK hW (ks_v0 (i := 0) (j := 0) (hE 0)) (ks_c0 cy ad o 0 0 _) rfl, fun U hU9 hWm => ⟨rfl, ks_UN.now hU hN hS hW hWm.alike hU9⟩⟩ rfl rfl hl.1 rfl (lv_room (Nat.le_of_ble_eq_true rfl)) dL_task_10 ⟨(Nat.le_of_ble_eq_true rfl), (Nat.le_of_ble_eq_true rfl)⟩) hS (fun H locs hW hS => ?_)
  refine lv_goto (tgt := 28) hx hb dL_task_13 (by decide) ?_
  refine lv_iconst (v := 0) hx hb dL_task_28 (by decide) ?_
  exact ks_lret hx hb hr hlocks hU.1 hK (Nat.le_of_ble_eq_true rfl) (Nat.le_of_ble_eq_true rfl) hf hW hS dL_task_29

def f_L_request (N : Nat) (σ : ks_S) (o : Int64) (x1 : Int32) (x2 : Int32) (x3 : Int32) (x4 : Int32) (x5 : Int32) : Option (Int32 × (ks_S × Int64)) :=
  (f_X4_request N σ x1 x2 x3 x4 x5).bind fun q1 => match q1 with | (.inl e1, s1) => if e1 = 0 then some (1, (s1, o)) else if e1 = 1 then some (2, (s1, o)) else if e1 = 2 then some (3, (s1, o)) else none | (.inr r1, s1) => some (0, (s1, r1.toInt64))
set_option maxHeartbeats 4000000 in
set_option maxRecDepth 100000 in
theorem m_L_request (l : Launch) (hlt : l.stackTraces = false) (D : va_G) (cy : Nat → ClassId) (ad : ks_A) (En : Nat → Prop) (n0 : Nat → Prop) (hG : ks_G ad En n0) (hE : ∀ k, En k) (o : Int64) {N : Nat} {σ : ks_S} {x1 : Int32} {x2 : Int32} {x3 : Int32} {x4 : Int32} {x5 : Int32} {out : Int32 × (ks_S × Int64)} (hf : f_L_request N σ o x1 x2 x3 x4 x5 = some out) : vx_Met l yL_request wsL_request (ks_Rm 8 2 12 130) (va_Pc [.ref (ad 0 0 0), .int x1, .int x2, .int x3, .int x4, .int x5, .ref (ad 45 0 0)] (ks_UL D cy ad En n0 σ o)) (ks_Li D cy ad En n0 out) (ks_LX n0) 2 12 (ks_F n0) := by
  refine vx_ofWH (cc := cL_request) (maxL := 8) (ret := some .int) (hh := [(0, 16, 19, 13), (0, 16, 23, 15), (0, 16, 27, 17)]) (by decide) rfl ?_
  intro p e s m args below meth c s₁ B hml hv
  obtain ⟨rfl, hU, hN, hNC⟩ := hv
  have hx := B.exec
  have hb := B.bytes
  have hr := B.returns
  have hown : s.vm.findClass RL = some m.cls := findClass_of_methodNamed B.named
  have hts := atoms_spec (ws := wsL_request) B.pre
  have hlocks := B.notSynchronized
  have htab : c.exceptionTable.toList = tableOf [(0, 16, 19, 13), (0, 16, 23, 15), (0, 16, 27, 17)] := vx_table (x := yL_request) B (hts _ List.mem_cons_self)
  have hK := hU.2.2
  have hW := hU.2.1
  have hS : va_S (ks_F n0) s.heap s.heap [] := va_S.rf
  have hl := lv_entry ([.ref (ad 0 0 0), .int x1, .int x2, .int x3, .int x4, .int x5, .ref (ad 45 0 0)]) (n := 8) (Nat.le_of_ble_eq_true rfl)
  rw [lg_entry_eq]
  generalize (lg_sl ([.ref (ad 0 0 0), .int x1, .int x2, .int x3, .int x4, .int x5, .ref (ad 45 0 0)]) ++ List.replicate (8 - (lg_sl ([.ref (ad 0 0 0), .int x1, .int x2, .int x3, .int x4, .int x5, .ref (ad 45 0 0)])).length) Slot.unset).toArray = ls at hl ⊢
  unfold f_L_request at hf
  refine lv_aload hx hb dL_request_0 (lv_at hl 6 rfl) ?_
  refine lv_iconst (v := 0) hx hb dL_request_2 (by decide) ?_
  refine lv_aload_n hx hb dL_request_3 rfl (lv_at hl 0 rfl) ?_
  refine lv_iload_n hx hb dL_request_4 rfl (lv_at hl 1 rfl) ?_
  refine lv_iload_n hx hb dL_request_5 rfl (lv_at hl 2 rfl) ?_
  refine lv_iload_n hx hb dL_request_6 rfl (lv_at hl 3 rfl) ?_
  refine lv_iload hx hb dL_request_7 (lv_at hl 4 rfl) ?_
  refine lv_iload hx hb dL_request_9 (lv_at hl 5 rfl) ?_
  obtain ⟨⟨e1 | r1, s1⟩, hc, hf⟩ := ks_bind hf
  · try dsimp only at hf
    refine ks_xcatch (vx_runV (As := [.int x1, .int x2, .int x3, .int x4, .int x5]) (rest := [.int 0, .ref (ad 45 0 0)]) ⟨hx, hb, hml, hown, hts⟩ (m_X4_request l hlt D cy ad En n0 hG (fun k _ => hE k) o hc) (cwV 5 hts gL_request_X4_request rfl rfl rfl (by decide +kernel) ⟨(Nat.le_of_ble_eq_true rfl), (Nat.le_of_ble_eq_true rfl)⟩) ⟨ks_UN.blind, ks_recv hK hW (ks_v0 (i := 0) (j := 0) (hE 0)) (ks_c0 cy ad o 0 0 _) rfl, fun U hU9 hWm => ⟨rfl, ks_UN.now hU hN hS hW hWm.alike hU9⟩⟩ rfl rfl hl.1 rfl (lv_room (Nat.le_of_ble_eq_true rfl)) dL_request_11 ⟨(Nat.le_of_ble_eq_true rfl), (Nat.le_of_ble_eq_true rfl)⟩) ks_noi hS (fun H locs ce q9 hW hS hce hcv hcl => ?_)
    by_cases h0 : e1 = 0
    · rw [if_pos h0] at hf
      subst h0
      refine vx_catch (own := RL) (name := "java/lang/IndexOutOfBoundsException") (E := ks_E 0) hown [] ⟨0, 16, 19, 13⟩ [⟨0, 16, 23, 15⟩, ⟨0, 16, 27, 17⟩] htab (fun z hz => nomatch hz) (by decide) (by decide) (hts (.classLink RL 13 "java/lang/IndexOutOfBoundsException") (by decide +kernel)) (va_Nw.use rfl (hN.1 (.castable "java/lang/IndexOutOfBoundsException" "java/lang/IndexOutOfBoundsException") (by decide +kernel))) hce hcv hcl ?_
      refine lv_astore (lv' := [(7, .ref q9), (0, .ref (ad 0 0 0)), (1, .int x1), (2, .int x2), (3, .int x3), (4, .int x4), (5, .int x5), (6, .ref (ad 45 0 0))]) hx hb dL_request_19 hl (by decide) rfl (fun ls hl => ?_)
      refine lv_iconst (v := 1) hx hb dL_request_21 (by decide) ?_
      exact ks_lret hx hb hr hlocks hU.1 hK (Nat.le_of_ble_eq_true rfl) (Nat.le_of_ble_eq_true rfl) hf hW hS dL_request_22
    rw [if_neg h0] at hf
    by_cases h1 : e1 = 1
    · rw [if_pos h1] at hf
      subst h1
      refine vx_catch (own := RL) (name := "java/lang/IllegalStateException") (E := ks_E 1) hown [⟨0, 16, 19, 13⟩] ⟨0, 16, 23, 15⟩ [⟨0, 16, 27, 17⟩] htab (List.forall_mem_cons.2 ⟨Or.inr ⟨by decide, "java/lang/IndexOutOfBoundsException", hts (.classLink RL 13 "java/lang/IndexOutOfBoundsException") (by decide +kernel), hNC ("java/lang/IllegalStateException", "java/lang/IndexOutOfBoundsException") (by decide +kernel)⟩, (fun z hz => nomatch hz)⟩) (by decide) (by decide) (hts (.classLink RL 15 "java/lang/IllegalStateException") (by decide +kernel)) (va_Nw.use rfl (hN.1 (.castable "java/lang/IllegalStateException" "java/lang/IllegalStateException") (by decide +kernel))) hce hcv hcl ?_
      refine lv_astore (lv' := [(7, .ref q9), (0, .ref (ad 0 0 0)), (1, .int x1), (2, .int x2), (3, .int x3), (4, .int x4), (5, .int x5), (6, .ref (ad 45 0 0))]) hx hb dL_request_23 hl (by decide) rfl (fun ls hl => ?_)
      refine lv_iconst (v := 2) hx hb dL_request_25 (by decide) ?_
      exact ks_lret hx hb hr hlocks hU.1 hK (Nat.le_of_ble_eq_true rfl) (Nat.le_of_ble_eq_true rfl) hf hW hS dL_request_26
    rw [if_neg h1] at hf
    by_cases h2 : e1 = 2
    · rw [if_pos h2] at hf
      subst h2
      refine vx_catch (own := RL) (name := "java/lang/IllegalArgumentException") (E := ks_E 2) hown [⟨0, 16, 19, 13⟩, ⟨0, 16, 23, 15⟩] ⟨0, 16, 27, 17⟩ [] htab (List.forall_mem_cons.2 ⟨Or.inr ⟨by decide, "java/lang/IndexOutOfBoundsException", hts (.classLink RL 13 "java/lang/IndexOutOfBoundsException") (by decide +kernel), hNC ("java/lang/IllegalArgumentException", "java/lang/IndexOutOfBoundsException") (by decide +kernel)⟩, (List.forall_mem_cons.2 ⟨Or.inr ⟨by decide, "java/lang/IllegalStateException", hts (.classLink RL 15 "java/lang/IllegalStateException") (by decide +kernel), hNC ("java/lang/IllegalArgumentException", "java/lang/IllegalStateException") (by decide +kernel)⟩, (fun z hz => nomatch hz)⟩)⟩) (by decide) (by decide) (hts (.classLink RL 17 "java/lang/IllegalArgumentException") (by decide +kernel)) (va_Nw.use rfl (hN.1 (.castable "java/lang/IllegalArgumentException" "java/lang/IllegalArgumentException") (by decide +kernel))) hce hcv hcl ?_
      refine lv_astore (lv' := [(7, .ref q9), (0, .ref (ad 0 0 0)), (1, .int x1), (2, .int x2), (3, .int x3), (4, .int x4), (5, .int x5), (6, .ref (ad 45 0 0))]) hx hb dL_request_27 hl (by decide) rfl (fun ls hl => ?_)
      refine lv_iconst (v := 3) hx hb dL_request_29 (by decide) ?_
      exact ks_lret hx hb hr hlocks hU.1 hK (Nat.le_of_ble_eq_true rfl) (Nat.le_of_ble_eq_true rfl) hf hW hS dL_request_30
    rw [if_neg h2] at hf
    exact absurd hf (by simp)
  try dsimp only at hf
  refine ks_xcalli (vx_runV (As := [.int x1, .int x2, .int x3, .int x4, .int x5]) (rest := [.int 0, .ref (ad 45 0 0)]) ⟨hx, hb, hml, hown, hts⟩ (m_X4_request l hlt D cy ad En n0 hG (fun k _ => hE k) o hc) (cwV 5 hts gL_request_X4_request rfl rfl rfl (by decide +kernel) ⟨(Nat.le_of_ble_eq_true rfl), (Nat.le_of_ble_eq_true rfl)⟩) ⟨ks_UN.blind, ks_recv hK hW (ks_v0 (i := 0) (j := 0) (hE 0)) (ks_c0 cy ad o 0 0 _) rfl, fun U hU9 hWm => ⟨rfl, ks_UN.now hU hN hS hW hWm.alike hU9⟩⟩ rfl rfl hl.1 rfl (lv_room (Nat.le_of_ble_eq_true rfl)) dL_request_11 ⟨(Nat.le_of_ble_eq_true rfl), (Nat.le_of_ble_eq_true rfl)⟩) hS (fun H locs hW hS => ?_)
  refine lv_i2l (v := r1.toInt64) hx hb dL_request_14 rfl ?_
  refine ks_last hx hb hK hG hW hS (hE 45) dL_request_15 (fun H locs hW hS => ?_)
  refine lv_goto (tgt := 31) hx hb dL_request_16 (by decide) ?_
  refine lv_iconst (v := 0) hx hb dL_request_31 (by decide) ?_
  exact ks_lret hx hb hr hlocks hU.1 hK (Nat.le_of_ble_eq_true rfl) (Nat.le_of_ble_eq_true rfl) hf hW hS dL_request_32

def f_L_take (N : Nat) (σ : ks_S) (o : Int64) (x1 : Int32) : Option (Int32 × (ks_S × Int64)) :=
  (f_X4_take N σ x1).bind fun q1 => match q1 with | (.inl e1, s1) => if e1 = 0 then some (1, (s1, o)) else if e1 = 1 then some (2, (s1, o)) else none | (.inr (), s1) => some (0, (s1, o))
set_option maxHeartbeats 4000000 in
set_option maxRecDepth 100000 in
theorem m_L_take (l : Launch) (hlt : l.stackTraces = false) (D : va_G) (cy : Nat → ClassId) (ad : ks_A) (En : Nat → Prop) (n0 : Nat → Prop) (hG : ks_G ad En n0) (hE : ∀ k, En k) (o : Int64) {N : Nat} {σ : ks_S} {x1 : Int32} {out : Int32 × (ks_S × Int64)} (hf : f_L_take N σ o x1 = some out) : vx_Met l yL_take wsL_take (ks_Rm 8 2 12 124) (va_Pc [.ref (ad 0 0 0), .int x1] (ks_UL D cy ad En n0 σ o)) (ks_Li D cy ad En n0 out) (ks_LX n0) 2 12 (ks_F n0) := by
  refine vx_ofWH (cc := cL_take) (maxL := 3) (ret := some .int) (hh := [(0, 5, 8, 13), (0, 5, 11, 15)]) (by decide) rfl ?_
  intro p e s m args below meth c s₁ B hml hv
  obtain ⟨rfl, hU, hN, hNC⟩ := hv
  have hx := B.exec
  have hb := B.bytes
  have hr := B.returns
  have hown : s.vm.findClass RL = some m.cls := findClass_of_methodNamed B.named
  have hts := atoms_spec (ws := wsL_take) B.pre
  have hlocks := B.notSynchronized
  have htab : c.exceptionTable.toList = tableOf [(0, 5, 8, 13), (0, 5, 11, 15)] := vx_table (x := yL_take) B (hts _ List.mem_cons_self)
  have hK := hU.2.2
  have hW := hU.2.1
  have hS : va_S (ks_F n0) s.heap s.heap [] := va_S.rf
  have hl := lv_entry ([.ref (ad 0 0 0), .int x1]) (n := 3) (Nat.le_of_ble_eq_true rfl)
  rw [lg_entry_eq]
  generalize (lg_sl ([.ref (ad 0 0 0), .int x1]) ++ List.replicate (3 - (lg_sl ([.ref (ad 0 0 0), .int x1])).length) Slot.unset).toArray = ls at hl ⊢
  unfold f_L_take at hf
  refine lv_aload_n hx hb dL_take_0 rfl (lv_at hl 0 rfl) ?_
  refine lv_iload_n hx hb dL_take_1 rfl (lv_at hl 1 rfl) ?_
  obtain ⟨⟨e1 | _, s1⟩, hc, hf⟩ := ks_bind hf
  · try dsimp only at hf
    refine ks_xcatch (vx_runV (As := [.int x1]) (rest := []) ⟨hx, hb, hml, hown, hts⟩ (m_X4_take l hlt D cy ad En n0 hG (fun k _ => hE k) o hc) (cwV 1 hts gL_take_X4_take rfl rfl rfl (by decide +kernel) ⟨(Nat.le_of_ble_eq_true rfl), (Nat.le_of_ble_eq_true rfl)⟩) ⟨ks_UN.blind, ks_recv hK hW (ks_v0 (i := 0) (j := 0) (hE 0)) (ks_c0 cy ad o 0 0 _) rfl, fun U hU9 hWm => ⟨rfl, ks_UN.now hU hN hS hW hWm.alike hU9⟩⟩ rfl rfl hl.1 rfl (lv_room (Nat.le_of_ble_eq_true rfl)) dL_take_2 ⟨(Nat.le_of_ble_eq_true rfl), (Nat.le_of_ble_eq_true rfl)⟩) ks_nov hS (fun H locs ce q9 hW hS hce hcv hcl => ?_)
    by_cases h0 : e1 = 0
    · rw [if_pos h0] at hf
      subst h0
      refine vx_catch (own := RL) (name := "java/lang/IndexOutOfBoundsException") (E := ks_E 0) hown [] ⟨0, 5, 8, 13⟩ [⟨0, 5, 11, 15⟩] htab (fun z hz => nomatch hz) (by decide) (by decide) (hts (.classLink RL 13 "java/lang/IndexOutOfBoundsException") (by decide +kernel)) (va_Nw.use rfl (hN.1 (.castable "java/lang/IndexOutOfBoundsException" "java/lang/IndexOutOfBoundsException") (by decide +kernel))) hce hcv hcl ?_
      refine lv_astore_n (lv' := [(2, .ref q9), (0, .ref (ad 0 0 0)), (1, .int x1)]) hx hb dL_take_8 rfl hl (by decide) rfl (fun ls hl => ?_)
      refine lv_iconst (v := 1) hx hb dL_take_9 (by decide) ?_
      exact ks_lret hx hb hr hlocks hU.1 hK (Nat.le_of_ble_eq_true rfl) (Nat.le_of_ble_eq_true rfl) hf hW hS dL_take_10
    rw [if_neg h0] at hf
    by_cases h1 : e1 = 1
    · rw [if_pos h1] at hf
      subst h1
      refine vx_catch (own := RL) (name := "java/lang/IllegalStateException") (E := ks_E 1) hown [⟨0, 5, 8, 13⟩] ⟨0, 5, 11, 15⟩ [] htab (List.forall_mem_cons.2 ⟨Or.inr ⟨by decide, "java/lang/IndexOutOfBoundsException", hts (.classLink RL 13 "java/lang/IndexOutOfBoundsException") (by decide +kernel), hNC ("java/lang/IllegalStateException", "java/lang/IndexOutOfBoundsException") (by decide +kernel)⟩, (fun z hz => nomatch hz)⟩) (by decide) (by decide) (hts (.classLink RL 15 "java/lang/IllegalStateException") (by decide +kernel)) (va_Nw.use rfl (hN.1 (.castable "java/lang/IllegalStateException" "java/lang/IllegalStateException") (by decide +kernel))) hce hcv hcl ?_
      refine lv_astore_n (lv' := [(2, .ref q9), (0, .ref (ad 0 0 0)), (1, .int x1)]) hx hb dL_take_11 rfl hl (by decide) rfl (fun ls hl => ?_)
      refine lv_iconst (v := 2) hx hb dL_take_12 (by decide) ?_
      exact ks_lret hx hb hr hlocks hU.1 hK (Nat.le_of_ble_eq_true rfl) (Nat.le_of_ble_eq_true rfl) hf hW hS dL_take_13
    rw [if_neg h1] at hf
    exact absurd hf (by simp)
  try dsimp only at hf
  refine ks_xcallv (vx_runV (As := [.int x1]) (rest := []) ⟨hx, hb, hml, hown, hts⟩ (m_X4_take l hlt D cy ad En n0 hG (fun k _ => hE k) o hc) (cwV 1 hts gL_take_X4_take rfl rfl rfl (by decide +kernel) ⟨(Nat.le_of_ble_eq_true rfl), (Nat.le_of_ble_eq_true rfl)⟩) ⟨ks_UN.blind, ks_recv hK hW (ks_v0 (i := 0) (j := 0) (hE 0)) (ks_c0 cy ad o 0 0 _) rfl, fun U hU9 hWm => ⟨rfl, ks_UN.now hU hN hS hW hWm.alike hU9⟩⟩ rfl rfl hl.1 rfl (lv_room (Nat.le_of_ble_eq_true rfl)) dL_take_2 ⟨(Nat.le_of_ble_eq_true rfl), (Nat.le_of_ble_eq_true rfl)⟩) hS (fun H locs hW hS => ?_)
  refine lv_goto (tgt := 14) hx hb dL_take_5 (by decide) ?_
  refine lv_iconst (v := 0) hx hb dL_take_14 (by decide) ?_
  exact ks_lret hx hb hr hlocks hU.1 hK (Nat.le_of_ble_eq_true rfl) (Nat.le_of_ble_eq_true rfl) hf hW hS dL_take_15

def f_L_group (σ : ks_S) (o : Int64) (x1 : Int32) : Option (Int32 × (ks_S × Int64)) :=
  (f_X4_group σ x1).bind fun q1 => match q1 with | (.inl e1, s1) => if e1 = 0 then some (1, (s1, o)) else none | (.inr r1, s1) => some (0, (s1, r1.toInt64))
set_option maxHeartbeats 4000000 in
set_option maxRecDepth 100000 in
theorem m_L_group (l : Launch) (hlt : l.stackTraces = false) (D : va_G) (cy : Nat → ClassId) (ad : ks_A) (En : Nat → Prop) (n0 : Nat → Prop) (hG : ks_G ad En n0) (hE : ∀ k, En k) (o : Int64) {σ : ks_S} {x1 : Int32} {out : Int32 × (ks_S × Int64)} (hf : f_L_group σ o x1 = some out) : vx_Met l yL_group wsL_group (ks_Rm 7 1 6 102) (va_Pc [.ref (ad 0 0 0), .int x1, .ref (ad 45 0 0)] (ks_UL D cy ad En n0 σ o)) (ks_Li D cy ad En n0 out) (ks_LX n0) 1 6 (ks_F n0) := by
  refine vx_ofWH (cc := cL_group) (maxL := 4) (ret := some .int) (hh := [(0, 9, 12, 13)]) (by decide) rfl ?_
  intro p e s m args below meth c s₁ B hml hv
  obtain ⟨rfl, hU, hN, hNC⟩ := hv
  have hx := B.exec
  have hb := B.bytes
  have hr := B.returns
  have hown : s.vm.findClass RL = some m.cls := findClass_of_methodNamed B.named
  have hts := atoms_spec (ws := wsL_group) B.pre
  have hlocks := B.notSynchronized
  have htab : c.exceptionTable.toList = tableOf [(0, 9, 12, 13)] := vx_table (x := yL_group) B (hts _ List.mem_cons_self)
  have hK := hU.2.2
  have hW := hU.2.1
  have hS : va_S (ks_F n0) s.heap s.heap [] := va_S.rf
  have hl := lv_entry ([.ref (ad 0 0 0), .int x1, .ref (ad 45 0 0)]) (n := 4) (Nat.le_of_ble_eq_true rfl)
  rw [lg_entry_eq]
  generalize (lg_sl ([.ref (ad 0 0 0), .int x1, .ref (ad 45 0 0)]) ++ List.replicate (4 - (lg_sl ([.ref (ad 0 0 0), .int x1, .ref (ad 45 0 0)])).length) Slot.unset).toArray = ls at hl ⊢
  unfold f_L_group at hf
  refine lv_aload_n hx hb dL_group_0 rfl (lv_at hl 2 rfl) ?_
  refine lv_iconst (v := 0) hx hb dL_group_1 (by decide) ?_
  refine lv_aload_n hx hb dL_group_2 rfl (lv_at hl 0 rfl) ?_
  refine lv_iload_n hx hb dL_group_3 rfl (lv_at hl 1 rfl) ?_
  obtain ⟨⟨e1 | r1, s1⟩, hc, hf⟩ := ks_bind hf
  · try dsimp only at hf
    refine ks_xcatch (vx_runV (As := [.int x1]) (rest := [.int 0, .ref (ad 45 0 0)]) ⟨hx, hb, hml, hown, hts⟩ (m_X4_group l hlt D cy ad En n0 hG (fun k _ => hE k) o hc) (cwV 1 hts gL_group_X4_group rfl rfl rfl (by decide +kernel) ⟨(Nat.le_of_ble_eq_true rfl), (Nat.le_of_ble_eq_true rfl)⟩) ⟨ks_UN.blind, ks_recv hK hW (ks_v0 (i := 0) (j := 0) (hE 0)) (ks_c0 cy ad o 0 0 _) rfl, fun U hU9 hWm => ⟨rfl, ks_UN.now hU hN hS hW hWm.alike hU9⟩⟩ rfl rfl hl.1 rfl (lv_room (Nat.le_of_ble_eq_true rfl)) dL_group_4 ⟨(Nat.le_of_ble_eq_true rfl), (Nat.le_of_ble_eq_true rfl)⟩) ks_noi hS (fun H locs ce q9 hW hS hce hcv hcl => ?_)
    by_cases h0 : e1 = 0
    · rw [if_pos h0] at hf
      subst h0
      refine vx_catch (own := RL) (name := "java/lang/IndexOutOfBoundsException") (E := ks_E 0) hown [] ⟨0, 9, 12, 13⟩ [] htab (fun z hz => nomatch hz) (by decide) (by decide) (hts (.classLink RL 13 "java/lang/IndexOutOfBoundsException") (by decide +kernel)) (va_Nw.use rfl (hN.1 (.castable "java/lang/IndexOutOfBoundsException" "java/lang/IndexOutOfBoundsException") (by decide +kernel))) hce hcv hcl ?_
      refine lv_astore_n (lv' := [(3, .ref q9), (0, .ref (ad 0 0 0)), (1, .int x1), (2, .ref (ad 45 0 0))]) hx hb dL_group_12 rfl hl (by decide) rfl (fun ls hl => ?_)
      refine lv_iconst (v := 1) hx hb dL_group_13 (by decide) ?_
      exact ks_lret hx hb hr hlocks hU.1 hK (Nat.le_of_ble_eq_true rfl) (Nat.le_of_ble_eq_true rfl) hf hW hS dL_group_14
    rw [if_neg h0] at hf
    exact absurd hf (by simp)
  try dsimp only at hf
  refine ks_xcalli (vx_runV (As := [.int x1]) (rest := [.int 0, .ref (ad 45 0 0)]) ⟨hx, hb, hml, hown, hts⟩ (m_X4_group l hlt D cy ad En n0 hG (fun k _ => hE k) o hc) (cwV 1 hts gL_group_X4_group rfl rfl rfl (by decide +kernel) ⟨(Nat.le_of_ble_eq_true rfl), (Nat.le_of_ble_eq_true rfl)⟩) ⟨ks_UN.blind, ks_recv hK hW (ks_v0 (i := 0) (j := 0) (hE 0)) (ks_c0 cy ad o 0 0 _) rfl, fun U hU9 hWm => ⟨rfl, ks_UN.now hU hN hS hW hWm.alike hU9⟩⟩ rfl rfl hl.1 rfl (lv_room (Nat.le_of_ble_eq_true rfl)) dL_group_4 ⟨(Nat.le_of_ble_eq_true rfl), (Nat.le_of_ble_eq_true rfl)⟩) hS (fun H locs hW hS => ?_)
  refine lv_i2l (v := r1.toInt64) hx hb dL_group_7 rfl ?_
  refine ks_last hx hb hK hG hW hS (hE 45) dL_group_8 (fun H locs hW hS => ?_)
  refine lv_goto (tgt := 15) hx hb dL_group_9 (by decide) ?_
  refine lv_iconst (v := 0) hx hb dL_group_15 (by decide) ?_
  exact ks_lret hx hb hr hlocks hU.1 hK (Nat.le_of_ble_eq_true rfl) (Nat.le_of_ble_eq_true rfl) hf hW hS dL_group_16

def f_L_spin (σ : ks_S) (o : Int64) (x1 : Int32) (x2 : Int32) : Option (Int32 × (ks_S × Int64)) :=
  (f_X4_spin σ x1 x2).bind fun q1 => match q1 with | (.inl e1, s1) => if e1 = 0 then some (1, (s1, o)) else none | (.inr r1, s1) => some (0, (s1, r1.toInt64))
set_option maxHeartbeats 4000000 in
set_option maxRecDepth 100000 in
theorem m_L_spin (l : Launch) (hlt : l.stackTraces = false) (D : va_G) (cy : Nat → ClassId) (ad : ks_A) (En : Nat → Prop) (n0 : Nat → Prop) (hG : ks_G ad En n0) (hE : ∀ k, En k) (o : Int64) {σ : ks_S} {x1 : Int32} {x2 : Int32} {out : Int32 × (ks_S × Int64)} (hf : f_L_spin σ o x1 x2 = some out) : vx_Met l yL_spin wsL_spin (ks_Rm 8 2 12 124) (va_Pc [.ref (ad 0 0 0), .int x1, .int x2, .ref (ad 45 0 0)] (ks_UL D cy ad En n0 σ o)) (ks_Li D cy ad En n0 out) (ks_LX n0) 2 12 (ks_F n0) := by
  refine vx_ofWH (cc := cL_spin) (maxL := 5) (ret := some .int) (hh := [(0, 10, 13, 13)]) (by decide) rfl ?_
  intro p e s m args below meth c s₁ B hml hv
  obtain ⟨rfl, hU, hN, hNC⟩ := hv
  have hx := B.exec
  have hb := B.bytes
  have hr := B.returns
  have hown : s.vm.findClass RL = some m.cls := findClass_of_methodNamed B.named
  have hts := atoms_spec (ws := wsL_spin) B.pre
  have hlocks := B.notSynchronized
  have htab : c.exceptionTable.toList = tableOf [(0, 10, 13, 13)] := vx_table (x := yL_spin) B (hts _ List.mem_cons_self)
  have hK := hU.2.2
  have hW := hU.2.1
  have hS : va_S (ks_F n0) s.heap s.heap [] := va_S.rf
  have hl := lv_entry ([.ref (ad 0 0 0), .int x1, .int x2, .ref (ad 45 0 0)]) (n := 5) (Nat.le_of_ble_eq_true rfl)
  rw [lg_entry_eq]
  generalize (lg_sl ([.ref (ad 0 0 0), .int x1, .int x2, .ref (ad 45 0 0)]) ++ List.replicate (5 - (lg_sl ([.ref (ad 0 0 0), .int x1, .int x2, .ref (ad 45 0 0)])).length) Slot.unset).toArray = ls at hl ⊢
  unfold f_L_spin at hf
  refine lv_aload_n hx hb dL_spin_0 rfl (lv_at hl 3 rfl) ?_
  refine lv_iconst (v := 0) hx hb dL_spin_1 (by decide) ?_
  refine lv_aload_n hx hb dL_spin_2 rfl (lv_at hl 0 rfl) ?_
  refine lv_iload_n hx hb dL_spin_3 rfl (lv_at hl 1 rfl) ?_
  refine lv_iload_n hx hb dL_spin_4 rfl (lv_at hl 2 rfl) ?_
  obtain ⟨⟨e1 | r1, s1⟩, hc, hf⟩ := ks_bind hf
  · try dsimp only at hf
    refine ks_xcatch (vx_runV (As := [.int x1, .int x2]) (rest := [.int 0, .ref (ad 45 0 0)]) ⟨hx, hb, hml, hown, hts⟩ (m_X4_spin l hlt D cy ad En n0 hG (fun k _ => hE k) o hc) (cwV 2 hts gL_spin_X4_spin rfl rfl rfl (by decide +kernel) ⟨(Nat.le_of_ble_eq_true rfl), (Nat.le_of_ble_eq_true rfl)⟩) ⟨ks_UN.blind, ks_recv hK hW (ks_v0 (i := 0) (j := 0) (hE 0)) (ks_c0 cy ad o 0 0 _) rfl, fun U hU9 hWm => ⟨rfl, ks_UN.now hU hN hS hW hWm.alike hU9⟩⟩ rfl rfl hl.1 rfl (lv_room (Nat.le_of_ble_eq_true rfl)) dL_spin_5 ⟨(Nat.le_of_ble_eq_true rfl), (Nat.le_of_ble_eq_true rfl)⟩) ks_noi hS (fun H locs ce q9 hW hS hce hcv hcl => ?_)
    by_cases h0 : e1 = 0
    · rw [if_pos h0] at hf
      subst h0
      refine vx_catch (own := RL) (name := "java/lang/IndexOutOfBoundsException") (E := ks_E 0) hown [] ⟨0, 10, 13, 13⟩ [] htab (fun z hz => nomatch hz) (by decide) (by decide) (hts (.classLink RL 13 "java/lang/IndexOutOfBoundsException") (by decide +kernel)) (va_Nw.use rfl (hN.1 (.castable "java/lang/IndexOutOfBoundsException" "java/lang/IndexOutOfBoundsException") (by decide +kernel))) hce hcv hcl ?_
      refine lv_astore (lv' := [(4, .ref q9), (0, .ref (ad 0 0 0)), (1, .int x1), (2, .int x2), (3, .ref (ad 45 0 0))]) hx hb dL_spin_13 hl (by decide) rfl (fun ls hl => ?_)
      refine lv_iconst (v := 1) hx hb dL_spin_15 (by decide) ?_
      exact ks_lret hx hb hr hlocks hU.1 hK (Nat.le_of_ble_eq_true rfl) (Nat.le_of_ble_eq_true rfl) hf hW hS dL_spin_16
    rw [if_neg h0] at hf
    exact absurd hf (by simp)
  try dsimp only at hf
  refine ks_xcalli (vx_runV (As := [.int x1, .int x2]) (rest := [.int 0, .ref (ad 45 0 0)]) ⟨hx, hb, hml, hown, hts⟩ (m_X4_spin l hlt D cy ad En n0 hG (fun k _ => hE k) o hc) (cwV 2 hts gL_spin_X4_spin rfl rfl rfl (by decide +kernel) ⟨(Nat.le_of_ble_eq_true rfl), (Nat.le_of_ble_eq_true rfl)⟩) ⟨ks_UN.blind, ks_recv hK hW (ks_v0 (i := 0) (j := 0) (hE 0)) (ks_c0 cy ad o 0 0 _) rfl, fun U hU9 hWm => ⟨rfl, ks_UN.now hU hN hS hW hWm.alike hU9⟩⟩ rfl rfl hl.1 rfl (lv_room (Nat.le_of_ble_eq_true rfl)) dL_spin_5 ⟨(Nat.le_of_ble_eq_true rfl), (Nat.le_of_ble_eq_true rfl)⟩) hS (fun H locs hW hS => ?_)
  refine lv_i2l (v := r1.toInt64) hx hb dL_spin_8 rfl ?_
  refine ks_last hx hb hK hG hW hS (hE 45) dL_spin_9 (fun H locs hW hS => ?_)
  refine lv_goto (tgt := 17) hx hb dL_spin_10 (by decide) ?_
  refine lv_iconst (v := 0) hx hb dL_spin_17 (by decide) ?_
  exact ks_lret hx hb hr hlocks hU.1 hK (Nat.le_of_ble_eq_true rfl) (Nat.le_of_ble_eq_true rfl) hf hW hS dL_spin_18

def f_L_bound (N : Nat) (σ : ks_S) (o : Int64) (x1 : Int32) (x2 : Int32) : Option (Int32 × (ks_S × Int64)) :=
  (f_X4_bound N σ x1 x2).bind fun q1 => match q1 with | (.inl e1, s1) => if e1 = 0 then some (1, (s1, o)) else if e1 = 2 then some (2, (s1, o)) else none | (.inr r1, s1) => some (0, (s1, r1.toInt64))
set_option maxHeartbeats 4000000 in
set_option maxRecDepth 100000 in
theorem m_L_bound (l : Launch) (hlt : l.stackTraces = false) (D : va_G) (cy : Nat → ClassId) (ad : ks_A) (En : Nat → Prop) (n0 : Nat → Prop) (hG : ks_G ad En n0) (hE : ∀ k, En k) (o : Int64) {N : Nat} {σ : ks_S} {x1 : Int32} {x2 : Int32} {out : Int32 × (ks_S × Int64)} (hf : f_L_bound N σ o x1 x2 = some out) : vx_Met l yL_bound wsL_bound (ks_Rm 8 2 12 125) (va_Pc [.ref (ad 0 0 0), .int x1, .int x2, .ref (ad 45 0 0)] (ks_UL D cy ad En n0 σ o)) (ks_Li D cy ad En n0 out) (ks_LX n0) 2 12 (ks_F n0) := by
  refine vx_ofWH (cc := cL_bound) (maxL := 5) (ret := some .int) (hh := [(0, 10, 13, 13), (0, 10, 17, 17)]) (by decide) rfl ?_
  intro p e s m args below meth c s₁ B hml hv
  obtain ⟨rfl, hU, hN, hNC⟩ := hv
  have hx := B.exec
  have hb := B.bytes
  have hr := B.returns
  have hown : s.vm.findClass RL = some m.cls := findClass_of_methodNamed B.named
  have hts := atoms_spec (ws := wsL_bound) B.pre
  have hlocks := B.notSynchronized
  have htab : c.exceptionTable.toList = tableOf [(0, 10, 13, 13), (0, 10, 17, 17)] := vx_table (x := yL_bound) B (hts _ List.mem_cons_self)
  have hK := hU.2.2
  have hW := hU.2.1
  have hS : va_S (ks_F n0) s.heap s.heap [] := va_S.rf
  have hl := lv_entry ([.ref (ad 0 0 0), .int x1, .int x2, .ref (ad 45 0 0)]) (n := 5) (Nat.le_of_ble_eq_true rfl)
  rw [lg_entry_eq]
  generalize (lg_sl ([.ref (ad 0 0 0), .int x1, .int x2, .ref (ad 45 0 0)]) ++ List.replicate (5 - (lg_sl ([.ref (ad 0 0 0), .int x1, .int x2, .ref (ad 45 0 0)])).length) Slot.unset).toArray = ls at hl ⊢
  unfold f_L_bound at hf
  refine lv_aload_n hx hb dL_bound_0 rfl (lv_at hl 3 rfl) ?_
  refine lv_iconst (v := 0) hx hb dL_bound_1 (by decide) ?_
  refine lv_aload_n hx hb dL_bound_2 rfl (lv_at hl 0 rfl) ?_
  refine lv_iload_n hx hb dL_bound_3 rfl (lv_at hl 1 rfl) ?_
  refine lv_iload_n hx hb dL_bound_4 rfl (lv_at hl 2 rfl) ?_
  obtain ⟨⟨e1 | r1, s1⟩, hc, hf⟩ := ks_bind hf
  · try dsimp only at hf
    refine ks_xcatch (vx_runV (As := [.int x1, .int x2]) (rest := [.int 0, .ref (ad 45 0 0)]) ⟨hx, hb, hml, hown, hts⟩ (m_X4_bound l hlt D cy ad En n0 hG (fun k _ => hE k) o hc) (cwV 2 hts gL_bound_X4_bound rfl rfl rfl (by decide +kernel) ⟨(Nat.le_of_ble_eq_true rfl), (Nat.le_of_ble_eq_true rfl)⟩) ⟨ks_UN.blind, ks_recv hK hW (ks_v0 (i := 0) (j := 0) (hE 0)) (ks_c0 cy ad o 0 0 _) rfl, fun U hU9 hWm => ⟨rfl, ks_UN.now hU hN hS hW hWm.alike hU9⟩⟩ rfl rfl hl.1 rfl (lv_room (Nat.le_of_ble_eq_true rfl)) dL_bound_5 ⟨(Nat.le_of_ble_eq_true rfl), (Nat.le_of_ble_eq_true rfl)⟩) ks_noi hS (fun H locs ce q9 hW hS hce hcv hcl => ?_)
    by_cases h0 : e1 = 0
    · rw [if_pos h0] at hf
      subst h0
      refine vx_catch (own := RL) (name := "java/lang/IndexOutOfBoundsException") (E := ks_E 0) hown [] ⟨0, 10, 13, 13⟩ [⟨0, 10, 17, 17⟩] htab (fun z hz => nomatch hz) (by decide) (by decide) (hts (.classLink RL 13 "java/lang/IndexOutOfBoundsException") (by decide +kernel)) (va_Nw.use rfl (hN.1 (.castable "java/lang/IndexOutOfBoundsException" "java/lang/IndexOutOfBoundsException") (by decide +kernel))) hce hcv hcl ?_
      refine lv_astore (lv' := [(4, .ref q9), (0, .ref (ad 0 0 0)), (1, .int x1), (2, .int x2), (3, .ref (ad 45 0 0))]) hx hb dL_bound_13 hl (by decide) rfl (fun ls hl => ?_)
      refine lv_iconst (v := 1) hx hb dL_bound_15 (by decide) ?_
      exact ks_lret hx hb hr hlocks hU.1 hK (Nat.le_of_ble_eq_true rfl) (Nat.le_of_ble_eq_true rfl) hf hW hS dL_bound_16
    rw [if_neg h0] at hf
    by_cases h1 : e1 = 2
    · rw [if_pos h1] at hf
      subst h1
      refine vx_catch (own := RL) (name := "java/lang/IllegalArgumentException") (E := ks_E 2) hown [⟨0, 10, 13, 13⟩] ⟨0, 10, 17, 17⟩ [] htab (List.forall_mem_cons.2 ⟨Or.inr ⟨by decide, "java/lang/IndexOutOfBoundsException", hts (.classLink RL 13 "java/lang/IndexOutOfBoundsException") (by decide +kernel), hNC ("java/lang/IllegalArgumentException", "java/lang/IndexOutOfBoundsException") (by decide +kernel)⟩, (fun z hz => nomatch hz)⟩) (by decide) (by decide) (hts (.classLink RL 17 "java/lang/IllegalArgumentException") (by decide +kernel)) (va_Nw.use rfl (hN.1 (.castable "java/lang/IllegalArgumentException" "java/lang/IllegalArgumentException") (by decide +kernel))) hce hcv hcl ?_
      refine lv_astore (lv' := [(4, .ref q9), (0, .ref (ad 0 0 0)), (1, .int x1), (2, .int x2), (3, .ref (ad 45 0 0))]) hx hb dL_bound_17 hl (by decide) rfl (fun ls hl => ?_)
      refine lv_iconst (v := 2) hx hb dL_bound_19 (by decide) ?_
      exact ks_lret hx hb hr hlocks hU.1 hK (Nat.le_of_ble_eq_true rfl) (Nat.le_of_ble_eq_true rfl) hf hW hS dL_bound_20
    rw [if_neg h1] at hf
    exact absurd hf (by simp)
  try dsimp only at hf
  refine ks_xcalli (vx_runV (As := [.int x1, .int x2]) (rest := [.int 0, .ref (ad 45 0 0)]) ⟨hx, hb, hml, hown, hts⟩ (m_X4_bound l hlt D cy ad En n0 hG (fun k _ => hE k) o hc) (cwV 2 hts gL_bound_X4_bound rfl rfl rfl (by decide +kernel) ⟨(Nat.le_of_ble_eq_true rfl), (Nat.le_of_ble_eq_true rfl)⟩) ⟨ks_UN.blind, ks_recv hK hW (ks_v0 (i := 0) (j := 0) (hE 0)) (ks_c0 cy ad o 0 0 _) rfl, fun U hU9 hWm => ⟨rfl, ks_UN.now hU hN hS hW hWm.alike hU9⟩⟩ rfl rfl hl.1 rfl (lv_room (Nat.le_of_ble_eq_true rfl)) dL_bound_5 ⟨(Nat.le_of_ble_eq_true rfl), (Nat.le_of_ble_eq_true rfl)⟩) hS (fun H locs hW hS => ?_)
  refine lv_i2l (v := r1.toInt64) hx hb dL_bound_8 rfl ?_
  refine ks_last hx hb hK hG hW hS (hE 45) dL_bound_9 (fun H locs hW hS => ?_)
  refine lv_goto (tgt := 21) hx hb dL_bound_10 (by decide) ?_
  refine lv_iconst (v := 0) hx hb dL_bound_21 (by decide) ?_
  exact ks_lret hx hb hr hlocks hU.1 hK (Nat.le_of_ble_eq_true rfl) (Nat.le_of_ble_eq_true rfl) hf hW hS dL_bound_22

def f_L_seal (N : Nat) (σ : ks_S) (o : Int64)  : Option (Int32 × (ks_S × Int64)) :=
  (f_X4_seal N σ ).bind fun q1 => match q1 with | (.inl e1, s1) => if e1 = 1 then some (1, (s1, o)) else none | (.inr r1, s1) => some (0, (s1, r1.toInt64))
set_option maxHeartbeats 4000000 in
set_option maxRecDepth 100000 in
theorem m_L_seal (l : Launch) (hlt : l.stackTraces = false) (D : va_G) (cy : Nat → ClassId) (ad : ks_A) (En : Nat → Prop) (n0 : Nat → Prop) (hG : ks_G ad En n0) (hE : ∀ k, En k) (o : Int64) {N : Nat} {σ : ks_S}  {out : Int32 × (ks_S × Int64)} (hf : f_L_seal N σ o  = some out) : vx_Met l yL_seal wsL_seal (ks_Rm 7 1 6 114) (va_Pc [.ref (ad 0 0 0), .ref (ad 45 0 0)] (ks_UL D cy ad En n0 σ o)) (ks_Li D cy ad En n0 out) (ks_LX n0) 1 6 (ks_F n0) := by
  refine vx_ofWH (cc := cL_seal) (maxL := 3) (ret := some .int) (hh := [(0, 8, 11, 15)]) (by decide) rfl ?_
  intro p e s m args below meth c s₁ B hml hv
  obtain ⟨rfl, hU, hN, hNC⟩ := hv
  have hx := B.exec
  have hb := B.bytes
  have hr := B.returns
  have hown : s.vm.findClass RL = some m.cls := findClass_of_methodNamed B.named
  have hts := atoms_spec (ws := wsL_seal) B.pre
  have hlocks := B.notSynchronized
  have htab : c.exceptionTable.toList = tableOf [(0, 8, 11, 15)] := vx_table (x := yL_seal) B (hts _ List.mem_cons_self)
  have hK := hU.2.2
  have hW := hU.2.1
  have hS : va_S (ks_F n0) s.heap s.heap [] := va_S.rf
  have hl := lv_entry ([.ref (ad 0 0 0), .ref (ad 45 0 0)]) (n := 3) (Nat.le_of_ble_eq_true rfl)
  rw [lg_entry_eq]
  generalize (lg_sl ([.ref (ad 0 0 0), .ref (ad 45 0 0)]) ++ List.replicate (3 - (lg_sl ([.ref (ad 0 0 0), .ref (ad 45 0 0)])).length) Slot.unset).toArray = ls at hl ⊢
  unfold f_L_seal at hf
  refine lv_aload_n hx hb dL_seal_0 rfl (lv_at hl 1 rfl) ?_
  refine lv_iconst (v := 0) hx hb dL_seal_1 (by decide) ?_
  refine lv_aload_n hx hb dL_seal_2 rfl (lv_at hl 0 rfl) ?_
  obtain ⟨⟨e1 | r1, s1⟩, hc, hf⟩ := ks_bind hf
  · try dsimp only at hf
    refine ks_xcatch (vx_runV (As := []) (rest := [.int 0, .ref (ad 45 0 0)]) ⟨hx, hb, hml, hown, hts⟩ (m_X4_seal l hlt D cy ad En n0 hG (fun k _ => hE k) o hc) (cwV 0 hts gL_seal_X4_seal rfl rfl rfl (by decide +kernel) ⟨(Nat.le_of_ble_eq_true rfl), (Nat.le_of_ble_eq_true rfl)⟩) ⟨ks_UN.blind, ks_recv hK hW (ks_v0 (i := 0) (j := 0) (hE 0)) (ks_c0 cy ad o 0 0 _) rfl, fun U hU9 hWm => ⟨rfl, ks_UN.now hU hN hS hW hWm.alike hU9⟩⟩ rfl rfl hl.1 rfl (lv_room (Nat.le_of_ble_eq_true rfl)) dL_seal_3 ⟨(Nat.le_of_ble_eq_true rfl), (Nat.le_of_ble_eq_true rfl)⟩) ks_noi hS (fun H locs ce q9 hW hS hce hcv hcl => ?_)
    by_cases h0 : e1 = 1
    · rw [if_pos h0] at hf
      subst h0
      refine vx_catch (own := RL) (name := "java/lang/IllegalStateException") (E := ks_E 1) hown [] ⟨0, 8, 11, 15⟩ [] htab (fun z hz => nomatch hz) (by decide) (by decide) (hts (.classLink RL 15 "java/lang/IllegalStateException") (by decide +kernel)) (va_Nw.use rfl (hN.1 (.castable "java/lang/IllegalStateException" "java/lang/IllegalStateException") (by decide +kernel))) hce hcv hcl ?_
      refine lv_astore_n (lv' := [(2, .ref q9), (0, .ref (ad 0 0 0)), (1, .ref (ad 45 0 0))]) hx hb dL_seal_11 rfl hl (by decide) rfl (fun ls hl => ?_)
      refine lv_iconst (v := 1) hx hb dL_seal_12 (by decide) ?_
      exact ks_lret hx hb hr hlocks hU.1 hK (Nat.le_of_ble_eq_true rfl) (Nat.le_of_ble_eq_true rfl) hf hW hS dL_seal_13
    rw [if_neg h0] at hf
    exact absurd hf (by simp)
  try dsimp only at hf
  refine ks_xcalli (vx_runV (As := []) (rest := [.int 0, .ref (ad 45 0 0)]) ⟨hx, hb, hml, hown, hts⟩ (m_X4_seal l hlt D cy ad En n0 hG (fun k _ => hE k) o hc) (cwV 0 hts gL_seal_X4_seal rfl rfl rfl (by decide +kernel) ⟨(Nat.le_of_ble_eq_true rfl), (Nat.le_of_ble_eq_true rfl)⟩) ⟨ks_UN.blind, ks_recv hK hW (ks_v0 (i := 0) (j := 0) (hE 0)) (ks_c0 cy ad o 0 0 _) rfl, fun U hU9 hWm => ⟨rfl, ks_UN.now hU hN hS hW hWm.alike hU9⟩⟩ rfl rfl hl.1 rfl (lv_room (Nat.le_of_ble_eq_true rfl)) dL_seal_3 ⟨(Nat.le_of_ble_eq_true rfl), (Nat.le_of_ble_eq_true rfl)⟩) hS (fun H locs hW hS => ?_)
  refine lv_i2l (v := r1.toInt64) hx hb dL_seal_6 rfl ?_
  refine ks_last hx hb hK hG hW hS (hE 45) dL_seal_7 (fun H locs hW hS => ?_)
  refine lv_goto (tgt := 14) hx hb dL_seal_8 (by decide) ?_
  refine lv_iconst (v := 0) hx hb dL_seal_14 (by decide) ?_
  exact ks_lret hx hb hr hlocks hU.1 hK (Nat.le_of_ble_eq_true rfl) (Nat.le_of_ble_eq_true rfl) hf hW hS dL_seal_15

def f_L_unseal (N : Nat) (σ : ks_S) (o : Int64)  : Option (Int32 × (ks_S × Int64)) :=
  (f_X4_unseal N σ ).bind fun q1 => match q1 with | (.inl e1, s1) => if e1 = 1 then some (1, (s1, o)) else none | (.inr (), s1) => some (0, (s1, o))
set_option maxHeartbeats 4000000 in
set_option maxRecDepth 100000 in
theorem m_L_unseal (l : Launch) (hlt : l.stackTraces = false) (D : va_G) (cy : Nat → ClassId) (ad : ks_A) (En : Nat → Prop) (n0 : Nat → Prop) (hG : ks_G ad En n0) (hE : ∀ k, En k) (o : Int64) {N : Nat} {σ : ks_S}  {out : Int32 × (ks_S × Int64)} (hf : f_L_unseal N σ o  = some out) : vx_Met l yL_unseal wsL_unseal (ks_Rm 7 1 6 105) (va_Pc [.ref (ad 0 0 0)] (ks_UL D cy ad En n0 σ o)) (ks_Li D cy ad En n0 out) (ks_LX n0) 1 6 (ks_F n0) := by
  refine vx_ofWH (cc := cL_unseal) (maxL := 2) (ret := some .int) (hh := [(0, 4, 7, 15)]) (by decide) rfl ?_
  intro p e s m args below meth c s₁ B hml hv
  obtain ⟨rfl, hU, hN, hNC⟩ := hv
  have hx := B.exec
  have hb := B.bytes
  have hr := B.returns
  have hown : s.vm.findClass RL = some m.cls := findClass_of_methodNamed B.named
  have hts := atoms_spec (ws := wsL_unseal) B.pre
  have hlocks := B.notSynchronized
  have htab : c.exceptionTable.toList = tableOf [(0, 4, 7, 15)] := vx_table (x := yL_unseal) B (hts _ List.mem_cons_self)
  have hK := hU.2.2
  have hW := hU.2.1
  have hS : va_S (ks_F n0) s.heap s.heap [] := va_S.rf
  have hl := lv_entry ([.ref (ad 0 0 0)]) (n := 2) (Nat.le_of_ble_eq_true rfl)
  rw [lg_entry_eq]
  generalize (lg_sl ([.ref (ad 0 0 0)]) ++ List.replicate (2 - (lg_sl ([.ref (ad 0 0 0)])).length) Slot.unset).toArray = ls at hl ⊢
  unfold f_L_unseal at hf
  refine lv_aload_n hx hb dL_unseal_0 rfl (lv_at hl 0 rfl) ?_
  obtain ⟨⟨e1 | _, s1⟩, hc, hf⟩ := ks_bind hf
  · try dsimp only at hf
    refine ks_xcatch (vx_runV (As := []) (rest := []) ⟨hx, hb, hml, hown, hts⟩ (m_X4_unseal l hlt D cy ad En n0 hG (fun k _ => hE k) o hc) (cwV 0 hts gL_unseal_X4_unseal rfl rfl rfl (by decide +kernel) ⟨(Nat.le_of_ble_eq_true rfl), (Nat.le_of_ble_eq_true rfl)⟩) ⟨ks_UN.blind, ks_recv hK hW (ks_v0 (i := 0) (j := 0) (hE 0)) (ks_c0 cy ad o 0 0 _) rfl, fun U hU9 hWm => ⟨rfl, ks_UN.now hU hN hS hW hWm.alike hU9⟩⟩ rfl rfl hl.1 rfl (lv_room (Nat.le_of_ble_eq_true rfl)) dL_unseal_1 ⟨(Nat.le_of_ble_eq_true rfl), (Nat.le_of_ble_eq_true rfl)⟩) ks_nov hS (fun H locs ce q9 hW hS hce hcv hcl => ?_)
    by_cases h0 : e1 = 1
    · rw [if_pos h0] at hf
      subst h0
      refine vx_catch (own := RL) (name := "java/lang/IllegalStateException") (E := ks_E 1) hown [] ⟨0, 4, 7, 15⟩ [] htab (fun z hz => nomatch hz) (by decide) (by decide) (hts (.classLink RL 15 "java/lang/IllegalStateException") (by decide +kernel)) (va_Nw.use rfl (hN.1 (.castable "java/lang/IllegalStateException" "java/lang/IllegalStateException") (by decide +kernel))) hce hcv hcl ?_
      refine lv_astore_n (lv' := [(1, .ref q9), (0, .ref (ad 0 0 0))]) hx hb dL_unseal_7 rfl hl (by decide) rfl (fun ls hl => ?_)
      refine lv_iconst (v := 1) hx hb dL_unseal_8 (by decide) ?_
      exact ks_lret hx hb hr hlocks hU.1 hK (Nat.le_of_ble_eq_true rfl) (Nat.le_of_ble_eq_true rfl) hf hW hS dL_unseal_9
    rw [if_neg h0] at hf
    exact absurd hf (by simp)
  try dsimp only at hf
  refine ks_xcallv (vx_runV (As := []) (rest := []) ⟨hx, hb, hml, hown, hts⟩ (m_X4_unseal l hlt D cy ad En n0 hG (fun k _ => hE k) o hc) (cwV 0 hts gL_unseal_X4_unseal rfl rfl rfl (by decide +kernel) ⟨(Nat.le_of_ble_eq_true rfl), (Nat.le_of_ble_eq_true rfl)⟩) ⟨ks_UN.blind, ks_recv hK hW (ks_v0 (i := 0) (j := 0) (hE 0)) (ks_c0 cy ad o 0 0 _) rfl, fun U hU9 hWm => ⟨rfl, ks_UN.now hU hN hS hW hWm.alike hU9⟩⟩ rfl rfl hl.1 rfl (lv_room (Nat.le_of_ble_eq_true rfl)) dL_unseal_1 ⟨(Nat.le_of_ble_eq_true rfl), (Nat.le_of_ble_eq_true rfl)⟩) hS (fun H locs hW hS => ?_)
  refine lv_goto (tgt := 10) hx hb dL_unseal_4 (by decide) ?_
  refine lv_iconst (v := 0) hx hb dL_unseal_10 (by decide) ?_
  exact ks_lret hx hb hr hlocks hU.1 hK (Nat.le_of_ble_eq_true rfl) (Nat.le_of_ble_eq_true rfl) hf hW hS dL_unseal_11

def f_L_arrive (N : Nat) (σ : ks_S) (o : Int64) (x1 : Int32) : Option (Int32 × (ks_S × Int64)) :=
  (f_X4_arrive N σ x1).bind fun q1 => match q1 with | (.inl e1, s1) => if e1 = 0 then some (1, (s1, o)) else if e1 = 1 then some (2, (s1, o)) else none | (.inr r1, s1) => if r1 = 0 then some (0, (s1, 0)) else some (0, (s1, 1))
set_option maxHeartbeats 4000000 in
set_option maxRecDepth 100000 in
theorem m_L_arrive (l : Launch) (hlt : l.stackTraces = false) (D : va_G) (cy : Nat → ClassId) (ad : ks_A) (En : Nat → Prop) (n0 : Nat → Prop) (hG : ks_G ad En n0) (hE : ∀ k, En k) (o : Int64) {N : Nat} {σ : ks_S} {x1 : Int32} {out : Int32 × (ks_S × Int64)} (hf : f_L_arrive N σ o x1 = some out) : vx_Met l yL_arrive wsL_arrive (ks_Rm 8 2 12 124) (va_Pc [.ref (ad 0 0 0), .int x1, .ref (ad 45 0 0)] (ks_UL D cy ad En n0 σ o)) (ks_Li D cy ad En n0 out) (ks_LX n0) 2 12 (ks_F n0) := by
  refine vx_ofWH (cc := cL_arrive) (maxL := 4) (ret := some .int) (hh := [(0, 16, 19, 13), (0, 16, 22, 15)]) (by decide) rfl ?_
  intro p e s m args below meth c s₁ B hml hv
  obtain ⟨rfl, hU, hN, hNC⟩ := hv
  have hx := B.exec
  have hb := B.bytes
  have hr := B.returns
  have hown : s.vm.findClass RL = some m.cls := findClass_of_methodNamed B.named
  have hts := atoms_spec (ws := wsL_arrive) B.pre
  have hlocks := B.notSynchronized
  have htab : c.exceptionTable.toList = tableOf [(0, 16, 19, 13), (0, 16, 22, 15)] := vx_table (x := yL_arrive) B (hts _ List.mem_cons_self)
  have hK := hU.2.2
  have hW := hU.2.1
  have hS : va_S (ks_F n0) s.heap s.heap [] := va_S.rf
  have hl := lv_entry ([.ref (ad 0 0 0), .int x1, .ref (ad 45 0 0)]) (n := 4) (Nat.le_of_ble_eq_true rfl)
  rw [lg_entry_eq]
  generalize (lg_sl ([.ref (ad 0 0 0), .int x1, .ref (ad 45 0 0)]) ++ List.replicate (4 - (lg_sl ([.ref (ad 0 0 0), .int x1, .ref (ad 45 0 0)])).length) Slot.unset).toArray = ls at hl ⊢
  unfold f_L_arrive at hf
  refine lv_aload_n hx hb dL_arrive_0 rfl (lv_at hl 2 rfl) ?_
  refine lv_iconst (v := 0) hx hb dL_arrive_1 (by decide) ?_
  refine lv_aload_n hx hb dL_arrive_2 rfl (lv_at hl 0 rfl) ?_
  refine lv_iload_n hx hb dL_arrive_3 rfl (lv_at hl 1 rfl) ?_
  obtain ⟨⟨e1 | r1, s1⟩, hc, hf⟩ := ks_bind hf
  · try dsimp only at hf
    refine ks_xcatch (vx_runV (As := [.int x1]) (rest := [.int 0, .ref (ad 45 0 0)]) ⟨hx, hb, hml, hown, hts⟩ (m_X4_arrive l hlt D cy ad En n0 hG (fun k _ => hE k) o hc) (cwV 1 hts gL_arrive_X4_arrive rfl rfl rfl (by decide +kernel) ⟨(Nat.le_of_ble_eq_true rfl), (Nat.le_of_ble_eq_true rfl)⟩) ⟨ks_UN.blind, ks_recv hK hW (ks_v0 (i := 0) (j := 0) (hE 0)) (ks_c0 cy ad o 0 0 _) rfl, fun U hU9 hWm => ⟨rfl, ks_UN.now hU hN hS hW hWm.alike hU9⟩⟩ rfl rfl hl.1 rfl (lv_room (Nat.le_of_ble_eq_true rfl)) dL_arrive_4 ⟨(Nat.le_of_ble_eq_true rfl), (Nat.le_of_ble_eq_true rfl)⟩) ks_noi hS (fun H locs ce q9 hW hS hce hcv hcl => ?_)
    by_cases h0 : e1 = 0
    · rw [if_pos h0] at hf
      subst h0
      refine vx_catch (own := RL) (name := "java/lang/IndexOutOfBoundsException") (E := ks_E 0) hown [] ⟨0, 16, 19, 13⟩ [⟨0, 16, 22, 15⟩] htab (fun z hz => nomatch hz) (by decide) (by decide) (hts (.classLink RL 13 "java/lang/IndexOutOfBoundsException") (by decide +kernel)) (va_Nw.use rfl (hN.1 (.castable "java/lang/IndexOutOfBoundsException" "java/lang/IndexOutOfBoundsException") (by decide +kernel))) hce hcv hcl ?_
      refine lv_astore_n (lv' := [(3, .ref q9), (0, .ref (ad 0 0 0)), (1, .int x1), (2, .ref (ad 45 0 0))]) hx hb dL_arrive_19 rfl hl (by decide) rfl (fun ls hl => ?_)
      refine lv_iconst (v := 1) hx hb dL_arrive_20 (by decide) ?_
      exact ks_lret hx hb hr hlocks hU.1 hK (Nat.le_of_ble_eq_true rfl) (Nat.le_of_ble_eq_true rfl) hf hW hS dL_arrive_21
    rw [if_neg h0] at hf
    by_cases h1 : e1 = 1
    · rw [if_pos h1] at hf
      subst h1
      refine vx_catch (own := RL) (name := "java/lang/IllegalStateException") (E := ks_E 1) hown [⟨0, 16, 19, 13⟩] ⟨0, 16, 22, 15⟩ [] htab (List.forall_mem_cons.2 ⟨Or.inr ⟨by decide, "java/lang/IndexOutOfBoundsException", hts (.classLink RL 13 "java/lang/IndexOutOfBoundsException") (by decide +kernel), hNC ("java/lang/IllegalStateException", "java/lang/IndexOutOfBoundsException") (by decide +kernel)⟩, (fun z hz => nomatch hz)⟩) (by decide) (by decide) (hts (.classLink RL 15 "java/lang/IllegalStateException") (by decide +kernel)) (va_Nw.use rfl (hN.1 (.castable "java/lang/IllegalStateException" "java/lang/IllegalStateException") (by decide +kernel))) hce hcv hcl ?_
      refine lv_astore_n (lv' := [(3, .ref q9), (0, .ref (ad 0 0 0)), (1, .int x1), (2, .ref (ad 45 0 0))]) hx hb dL_arrive_22 rfl hl (by decide) rfl (fun ls hl => ?_)
      refine lv_iconst (v := 2) hx hb dL_arrive_23 (by decide) ?_
      exact ks_lret hx hb hr hlocks hU.1 hK (Nat.le_of_ble_eq_true rfl) (Nat.le_of_ble_eq_true rfl) hf hW hS dL_arrive_24
    rw [if_neg h1] at hf
    exact absurd hf (by simp)
  try dsimp only at hf
  refine ks_xcalli (vx_runV (As := [.int x1]) (rest := [.int 0, .ref (ad 45 0 0)]) ⟨hx, hb, hml, hown, hts⟩ (m_X4_arrive l hlt D cy ad En n0 hG (fun k _ => hE k) o hc) (cwV 1 hts gL_arrive_X4_arrive rfl rfl rfl (by decide +kernel) ⟨(Nat.le_of_ble_eq_true rfl), (Nat.le_of_ble_eq_true rfl)⟩) ⟨ks_UN.blind, ks_recv hK hW (ks_v0 (i := 0) (j := 0) (hE 0)) (ks_c0 cy ad o 0 0 _) rfl, fun U hU9 hWm => ⟨rfl, ks_UN.now hU hN hS hW hWm.alike hU9⟩⟩ rfl rfl hl.1 rfl (lv_room (Nat.le_of_ble_eq_true rfl)) dL_arrive_4 ⟨(Nat.le_of_ble_eq_true rfl), (Nat.le_of_ble_eq_true rfl)⟩) hS (fun H locs hW hS => ?_)
  refine lv_if_eq (tgt := 14) hx hb dL_arrive_7 (by decide) (fun c1 => ?_) (fun c1 => ?_)
  · rw [if_pos c1] at hf
    refine lv_lconst (v := 0) hx hb dL_arrive_14 (by decide) ?_
    refine ks_last hx hb hK hG hW hS (hE 45) dL_arrive_15 (fun H locs hW hS => ?_)
    refine lv_goto (tgt := 25) hx hb dL_arrive_16 (by decide) ?_
    refine lv_iconst (v := 0) hx hb dL_arrive_25 (by decide) ?_
    exact ks_lret hx hb hr hlocks hU.1 hK (Nat.le_of_ble_eq_true rfl) (Nat.le_of_ble_eq_true rfl) hf hW hS dL_arrive_26
  · rw [if_neg c1] at hf
    refine lv_lconst (v := 1) hx hb dL_arrive_10 (by decide) ?_
    refine lv_goto (tgt := 15) hx hb dL_arrive_11 (by decide) ?_
    refine ks_last hx hb hK hG hW hS (hE 45) dL_arrive_15 (fun H locs hW hS => ?_)
    refine lv_goto (tgt := 25) hx hb dL_arrive_16 (by decide) ?_
    refine lv_iconst (v := 0) hx hb dL_arrive_25 (by decide) ?_
    exact ks_lret hx hb hr hlocks hU.1 hK (Nat.le_of_ble_eq_true rfl) (Nat.le_of_ble_eq_true rfl) hf hW hS dL_arrive_26

def f_L_shorten (σ : ks_S) (o : Int64) (x1 : Int32) (x2 : Int32) (x3 : Int32) : Option (Int32 × (ks_S × Int64)) :=
  (f_X4_shorten σ x1 x2 x3).bind fun q1 => match q1 with | (.inl e1, s1) => if e1 = 0 then some (1, (s1, o)) else if e1 = 1 then some (2, (s1, o)) else if e1 = 2 then some (3, (s1, o)) else none | (.inr (), s1) => some (0, (s1, o))
set_option maxHeartbeats 4000000 in
set_option maxRecDepth 100000 in
theorem m_L_shorten (l : Launch) (hlt : l.stackTraces = false) (D : va_G) (cy : Nat → ClassId) (ad : ks_A) (En : Nat → Prop) (n0 : Nat → Prop) (hG : ks_G ad En n0) (hE : ∀ k, En k) (o : Int64) {σ : ks_S} {x1 : Int32} {x2 : Int32} {x3 : Int32} {out : Int32 × (ks_S × Int64)} (hf : f_L_shorten σ o x1 x2 x3 = some out) : vx_Met l yL_shorten wsL_shorten (ks_Rm 8 3 18 126) (va_Pc [.ref (ad 0 0 0), .int x1, .int x2, .int x3] (ks_UL D cy ad En n0 σ o)) (ks_Li D cy ad En n0 out) (ks_LX n0) 3 18 (ks_F n0) := by
  refine vx_ofWH (cc := cL_shorten) (maxL := 5) (ret := some .int) (hh := [(0, 7, 10, 13), (0, 7, 14, 15), (0, 7, 18, 17)]) (by decide) rfl ?_
  intro p e s m args below meth c s₁ B hml hv
  obtain ⟨rfl, hU, hN, hNC⟩ := hv
  have hx := B.exec
  have hb := B.bytes
  have hr := B.returns
  have hown : s.vm.findClass RL = some m.cls := findClass_of_methodNamed B.named
  have hts := atoms_spec (ws := wsL_shorten) B.pre
  have hlocks := B.notSynchronized
  have htab : c.exceptionTable.toList = tableOf [(0, 7, 10, 13), (0, 7, 14, 15), (0, 7, 18, 17)] := vx_table (x := yL_shorten) B (hts _ List.mem_cons_self)
  have hK := hU.2.2
  have hW := hU.2.1
  have hS : va_S (ks_F n0) s.heap s.heap [] := va_S.rf
  have hl := lv_entry ([.ref (ad 0 0 0), .int x1, .int x2, .int x3]) (n := 5) (Nat.le_of_ble_eq_true rfl)
  rw [lg_entry_eq]
  generalize (lg_sl ([.ref (ad 0 0 0), .int x1, .int x2, .int x3]) ++ List.replicate (5 - (lg_sl ([.ref (ad 0 0 0), .int x1, .int x2, .int x3])).length) Slot.unset).toArray = ls at hl ⊢
  unfold f_L_shorten at hf
  refine lv_aload_n hx hb dL_shorten_0 rfl (lv_at hl 0 rfl) ?_
  refine lv_iload_n hx hb dL_shorten_1 rfl (lv_at hl 1 rfl) ?_
  refine lv_iload_n hx hb dL_shorten_2 rfl (lv_at hl 2 rfl) ?_
  refine lv_iload_n hx hb dL_shorten_3 rfl (lv_at hl 3 rfl) ?_
  obtain ⟨⟨e1 | _, s1⟩, hc, hf⟩ := ks_bind hf
  · try dsimp only at hf
    refine ks_xcatch (vx_runV (As := [.int x1, .int x2, .int x3]) (rest := []) ⟨hx, hb, hml, hown, hts⟩ (m_X4_shorten l hlt D cy ad En n0 hG (fun k _ => hE k) o hc) (cwV 3 hts gL_shorten_X4_shorten rfl rfl rfl (by decide +kernel) ⟨(Nat.le_of_ble_eq_true rfl), (Nat.le_of_ble_eq_true rfl)⟩) ⟨ks_UN.blind, ks_recv hK hW (ks_v0 (i := 0) (j := 0) (hE 0)) (ks_c0 cy ad o 0 0 _) rfl, fun U hU9 hWm => ⟨rfl, ks_UN.now hU hN hS hW hWm.alike hU9⟩⟩ rfl rfl hl.1 rfl (lv_room (Nat.le_of_ble_eq_true rfl)) dL_shorten_4 ⟨(Nat.le_of_ble_eq_true rfl), (Nat.le_of_ble_eq_true rfl)⟩) ks_nov hS (fun H locs ce q9 hW hS hce hcv hcl => ?_)
    by_cases h0 : e1 = 0
    · rw [if_pos h0] at hf
      subst h0
      refine vx_catch (own := RL) (name := "java/lang/IndexOutOfBoundsException") (E := ks_E 0) hown [] ⟨0, 7, 10, 13⟩ [⟨0, 7, 14, 15⟩, ⟨0, 7, 18, 17⟩] htab (fun z hz => nomatch hz) (by decide) (by decide) (hts (.classLink RL 13 "java/lang/IndexOutOfBoundsException") (by decide +kernel)) (va_Nw.use rfl (hN.1 (.castable "java/lang/IndexOutOfBoundsException" "java/lang/IndexOutOfBoundsException") (by decide +kernel))) hce hcv hcl ?_
      refine lv_astore (lv' := [(4, .ref q9), (0, .ref (ad 0 0 0)), (1, .int x1), (2, .int x2), (3, .int x3)]) hx hb dL_shorten_10 hl (by decide) rfl (fun ls hl => ?_)
      refine lv_iconst (v := 1) hx hb dL_shorten_12 (by decide) ?_
      exact ks_lret hx hb hr hlocks hU.1 hK (Nat.le_of_ble_eq_true rfl) (Nat.le_of_ble_eq_true rfl) hf hW hS dL_shorten_13
    rw [if_neg h0] at hf
    by_cases h1 : e1 = 1
    · rw [if_pos h1] at hf
      subst h1
      refine vx_catch (own := RL) (name := "java/lang/IllegalStateException") (E := ks_E 1) hown [⟨0, 7, 10, 13⟩] ⟨0, 7, 14, 15⟩ [⟨0, 7, 18, 17⟩] htab (List.forall_mem_cons.2 ⟨Or.inr ⟨by decide, "java/lang/IndexOutOfBoundsException", hts (.classLink RL 13 "java/lang/IndexOutOfBoundsException") (by decide +kernel), hNC ("java/lang/IllegalStateException", "java/lang/IndexOutOfBoundsException") (by decide +kernel)⟩, (fun z hz => nomatch hz)⟩) (by decide) (by decide) (hts (.classLink RL 15 "java/lang/IllegalStateException") (by decide +kernel)) (va_Nw.use rfl (hN.1 (.castable "java/lang/IllegalStateException" "java/lang/IllegalStateException") (by decide +kernel))) hce hcv hcl ?_
      refine lv_astore (lv' := [(4, .ref q9), (0, .ref (ad 0 0 0)), (1, .int x1), (2, .int x2), (3, .int x3)]) hx hb dL_shorten_14 hl (by decide) rfl (fun ls hl => ?_)
      refine lv_iconst (v := 2) hx hb dL_shorten_16 (by decide) ?_
      exact ks_lret hx hb hr hlocks hU.1 hK (Nat.le_of_ble_eq_true rfl) (Nat.le_of_ble_eq_true rfl) hf hW hS dL_shorten_17
    rw [if_neg h1] at hf
    by_cases h2 : e1 = 2
    · rw [if_pos h2] at hf
      subst h2
      refine vx_catch (own := RL) (name := "java/lang/IllegalArgumentException") (E := ks_E 2) hown [⟨0, 7, 10, 13⟩, ⟨0, 7, 14, 15⟩] ⟨0, 7, 18, 17⟩ [] htab (List.forall_mem_cons.2 ⟨Or.inr ⟨by decide, "java/lang/IndexOutOfBoundsException", hts (.classLink RL 13 "java/lang/IndexOutOfBoundsException") (by decide +kernel), hNC ("java/lang/IllegalArgumentException", "java/lang/IndexOutOfBoundsException") (by decide +kernel)⟩, (List.forall_mem_cons.2 ⟨Or.inr ⟨by decide, "java/lang/IllegalStateException", hts (.classLink RL 15 "java/lang/IllegalStateException") (by decide +kernel), hNC ("java/lang/IllegalArgumentException", "java/lang/IllegalStateException") (by decide +kernel)⟩, (fun z hz => nomatch hz)⟩)⟩) (by decide) (by decide) (hts (.classLink RL 17 "java/lang/IllegalArgumentException") (by decide +kernel)) (va_Nw.use rfl (hN.1 (.castable "java/lang/IllegalArgumentException" "java/lang/IllegalArgumentException") (by decide +kernel))) hce hcv hcl ?_
      refine lv_astore (lv' := [(4, .ref q9), (0, .ref (ad 0 0 0)), (1, .int x1), (2, .int x2), (3, .int x3)]) hx hb dL_shorten_18 hl (by decide) rfl (fun ls hl => ?_)
      refine lv_iconst (v := 3) hx hb dL_shorten_20 (by decide) ?_
      exact ks_lret hx hb hr hlocks hU.1 hK (Nat.le_of_ble_eq_true rfl) (Nat.le_of_ble_eq_true rfl) hf hW hS dL_shorten_21
    rw [if_neg h2] at hf
    exact absurd hf (by simp)
  try dsimp only at hf
  refine ks_xcallv (vx_runV (As := [.int x1, .int x2, .int x3]) (rest := []) ⟨hx, hb, hml, hown, hts⟩ (m_X4_shorten l hlt D cy ad En n0 hG (fun k _ => hE k) o hc) (cwV 3 hts gL_shorten_X4_shorten rfl rfl rfl (by decide +kernel) ⟨(Nat.le_of_ble_eq_true rfl), (Nat.le_of_ble_eq_true rfl)⟩) ⟨ks_UN.blind, ks_recv hK hW (ks_v0 (i := 0) (j := 0) (hE 0)) (ks_c0 cy ad o 0 0 _) rfl, fun U hU9 hWm => ⟨rfl, ks_UN.now hU hN hS hW hWm.alike hU9⟩⟩ rfl rfl hl.1 rfl (lv_room (Nat.le_of_ble_eq_true rfl)) dL_shorten_4 ⟨(Nat.le_of_ble_eq_true rfl), (Nat.le_of_ble_eq_true rfl)⟩) hS (fun H locs hW hS => ?_)
  refine lv_goto (tgt := 22) hx hb dL_shorten_7 (by decide) ?_
  refine lv_iconst (v := 0) hx hb dL_shorten_22 (by decide) ?_
  exact ks_lret hx hb hr hlocks hU.1 hK (Nat.le_of_ble_eq_true rfl) (Nat.le_of_ble_eq_true rfl) hf hW hS dL_shorten_23

def f_L_tick (N : Nat) (σ : ks_S) (o : Int64) (x1 : Int32) : Option (Int32 × (ks_S × Int64)) :=
  (f_X4_tick N σ x1).bind fun q1 => match q1 with | (.inl e1, s1) => if e1 = 1 then some (1, (s1, o)) else if e1 = 2 then some (2, (s1, o)) else none | (.inr r1, s1) => some (0, (s1, r1.toInt64))
set_option maxHeartbeats 4000000 in
set_option maxRecDepth 100000 in
theorem m_L_tick (l : Launch) (hlt : l.stackTraces = false) (D : va_G) (cy : Nat → ClassId) (ad : ks_A) (En : Nat → Prop) (n0 : Nat → Prop) (hG : ks_G ad En n0) (hE : ∀ k, En k) (o : Int64) {N : Nat} {σ : ks_S} {x1 : Int32} {out : Int32 × (ks_S × Int64)} (hf : f_L_tick N σ o x1 = some out) : vx_Met l yL_tick wsL_tick (ks_Rm 7 1 6 154) (va_Pc [.ref (ad 0 0 0), .int x1, .ref (ad 45 0 0)] (ks_UL D cy ad En n0 σ o)) (ks_Li D cy ad En n0 out) (ks_LX n0) 1 6 (ks_F n0) := by
  refine vx_ofWH (cc := cL_tick) (maxL := 4) (ret := some .int) (hh := [(0, 9, 12, 15), (0, 9, 15, 17)]) (by decide) rfl ?_
  intro p e s m args below meth c s₁ B hml hv
  obtain ⟨rfl, hU, hN, hNC⟩ := hv
  have hx := B.exec
  have hb := B.bytes
  have hr := B.returns
  have hown : s.vm.findClass RL = some m.cls := findClass_of_methodNamed B.named
  have hts := atoms_spec (ws := wsL_tick) B.pre
  have hlocks := B.notSynchronized
  have htab : c.exceptionTable.toList = tableOf [(0, 9, 12, 15), (0, 9, 15, 17)] := vx_table (x := yL_tick) B (hts _ List.mem_cons_self)
  have hK := hU.2.2
  have hW := hU.2.1
  have hS : va_S (ks_F n0) s.heap s.heap [] := va_S.rf
  have hl := lv_entry ([.ref (ad 0 0 0), .int x1, .ref (ad 45 0 0)]) (n := 4) (Nat.le_of_ble_eq_true rfl)
  rw [lg_entry_eq]
  generalize (lg_sl ([.ref (ad 0 0 0), .int x1, .ref (ad 45 0 0)]) ++ List.replicate (4 - (lg_sl ([.ref (ad 0 0 0), .int x1, .ref (ad 45 0 0)])).length) Slot.unset).toArray = ls at hl ⊢
  unfold f_L_tick at hf
  refine lv_aload_n hx hb dL_tick_0 rfl (lv_at hl 2 rfl) ?_
  refine lv_iconst (v := 0) hx hb dL_tick_1 (by decide) ?_
  refine lv_aload_n hx hb dL_tick_2 rfl (lv_at hl 0 rfl) ?_
  refine lv_iload_n hx hb dL_tick_3 rfl (lv_at hl 1 rfl) ?_
  obtain ⟨⟨e1 | r1, s1⟩, hc, hf⟩ := ks_bind hf
  · try dsimp only at hf
    refine ks_xcatch (vx_runV (As := [.int x1]) (rest := [.int 0, .ref (ad 45 0 0)]) ⟨hx, hb, hml, hown, hts⟩ (m_X4_tick l hlt D cy ad En n0 hG (fun k _ => hE k) o hc) (cwV 1 hts gL_tick_X4_tick rfl rfl rfl (by decide +kernel) ⟨(Nat.le_of_ble_eq_true rfl), (Nat.le_of_ble_eq_true rfl)⟩) ⟨ks_UN.blind, ks_recv hK hW (ks_v0 (i := 0) (j := 0) (hE 0)) (ks_c0 cy ad o 0 0 _) rfl, fun U hU9 hWm => ⟨rfl, ks_UN.now hU hN hS hW hWm.alike hU9⟩⟩ rfl rfl hl.1 rfl (lv_room (Nat.le_of_ble_eq_true rfl)) dL_tick_4 ⟨(Nat.le_of_ble_eq_true rfl), (Nat.le_of_ble_eq_true rfl)⟩) ks_noi hS (fun H locs ce q9 hW hS hce hcv hcl => ?_)
    by_cases h0 : e1 = 1
    · rw [if_pos h0] at hf
      subst h0
      refine vx_catch (own := RL) (name := "java/lang/IllegalStateException") (E := ks_E 1) hown [] ⟨0, 9, 12, 15⟩ [⟨0, 9, 15, 17⟩] htab (fun z hz => nomatch hz) (by decide) (by decide) (hts (.classLink RL 15 "java/lang/IllegalStateException") (by decide +kernel)) (va_Nw.use rfl (hN.1 (.castable "java/lang/IllegalStateException" "java/lang/IllegalStateException") (by decide +kernel))) hce hcv hcl ?_
      refine lv_astore_n (lv' := [(3, .ref q9), (0, .ref (ad 0 0 0)), (1, .int x1), (2, .ref (ad 45 0 0))]) hx hb dL_tick_12 rfl hl (by decide) rfl (fun ls hl => ?_)
      refine lv_iconst (v := 1) hx hb dL_tick_13 (by decide) ?_
      exact ks_lret hx hb hr hlocks hU.1 hK (Nat.le_of_ble_eq_true rfl) (Nat.le_of_ble_eq_true rfl) hf hW hS dL_tick_14
    rw [if_neg h0] at hf
    by_cases h1 : e1 = 2
    · rw [if_pos h1] at hf
      subst h1
      refine vx_catch (own := RL) (name := "java/lang/IllegalArgumentException") (E := ks_E 2) hown [⟨0, 9, 12, 15⟩] ⟨0, 9, 15, 17⟩ [] htab (List.forall_mem_cons.2 ⟨Or.inr ⟨by decide, "java/lang/IllegalStateException", hts (.classLink RL 15 "java/lang/IllegalStateException") (by decide +kernel), hNC ("java/lang/IllegalArgumentException", "java/lang/IllegalStateException") (by decide +kernel)⟩, (fun z hz => nomatch hz)⟩) (by decide) (by decide) (hts (.classLink RL 17 "java/lang/IllegalArgumentException") (by decide +kernel)) (va_Nw.use rfl (hN.1 (.castable "java/lang/IllegalArgumentException" "java/lang/IllegalArgumentException") (by decide +kernel))) hce hcv hcl ?_
      refine lv_astore_n (lv' := [(3, .ref q9), (0, .ref (ad 0 0 0)), (1, .int x1), (2, .ref (ad 45 0 0))]) hx hb dL_tick_15 rfl hl (by decide) rfl (fun ls hl => ?_)
      refine lv_iconst (v := 2) hx hb dL_tick_16 (by decide) ?_
      exact ks_lret hx hb hr hlocks hU.1 hK (Nat.le_of_ble_eq_true rfl) (Nat.le_of_ble_eq_true rfl) hf hW hS dL_tick_17
    rw [if_neg h1] at hf
    exact absurd hf (by simp)
  try dsimp only at hf
  refine ks_xcalli (vx_runV (As := [.int x1]) (rest := [.int 0, .ref (ad 45 0 0)]) ⟨hx, hb, hml, hown, hts⟩ (m_X4_tick l hlt D cy ad En n0 hG (fun k _ => hE k) o hc) (cwV 1 hts gL_tick_X4_tick rfl rfl rfl (by decide +kernel) ⟨(Nat.le_of_ble_eq_true rfl), (Nat.le_of_ble_eq_true rfl)⟩) ⟨ks_UN.blind, ks_recv hK hW (ks_v0 (i := 0) (j := 0) (hE 0)) (ks_c0 cy ad o 0 0 _) rfl, fun U hU9 hWm => ⟨rfl, ks_UN.now hU hN hS hW hWm.alike hU9⟩⟩ rfl rfl hl.1 rfl (lv_room (Nat.le_of_ble_eq_true rfl)) dL_tick_4 ⟨(Nat.le_of_ble_eq_true rfl), (Nat.le_of_ble_eq_true rfl)⟩) hS (fun H locs hW hS => ?_)
  refine lv_i2l (v := r1.toInt64) hx hb dL_tick_7 rfl ?_
  refine ks_last hx hb hK hG hW hS (hE 45) dL_tick_8 (fun H locs hW hS => ?_)
  refine lv_goto (tgt := 18) hx hb dL_tick_9 (by decide) ?_
  refine lv_iconst (v := 0) hx hb dL_tick_18 (by decide) ?_
  exact ks_lret hx hb hr hlocks hU.1 hK (Nat.le_of_ble_eq_true rfl) (Nat.le_of_ble_eq_true rfl) hf hW hS dL_tick_19

def f_L_core (σ : ks_S) (o : Int64) (x1 : Int32) (x2 : Int32) : Option (Int32 × (ks_S × Int64)) :=
  (f_X4_core σ x1 x2).bind fun q1 => match q1 with | (.inl e1, s1) => if e1 = 0 then some (1, (s1, o)) else if e1 = 2 then some (2, (s1, o)) else none | (.inr r1, s1) => some (0, (s1, r1.toInt64))
set_option maxHeartbeats 4000000 in
set_option maxRecDepth 100000 in
theorem m_L_core (l : Launch) (hlt : l.stackTraces = false) (D : va_G) (cy : Nat → ClassId) (ad : ks_A) (En : Nat → Prop) (n0 : Nat → Prop) (hG : ks_G ad En n0) (hE : ∀ k, En k) (o : Int64) {σ : ks_S} {x1 : Int32} {x2 : Int32} {out : Int32 × (ks_S × Int64)} (hf : f_L_core σ o x1 x2 = some out) : vx_Met l yL_core wsL_core (ks_Rm 7 1 6 103) (va_Pc [.ref (ad 0 0 0), .int x1, .int x2, .ref (ad 45 0 0)] (ks_UL D cy ad En n0 σ o)) (ks_Li D cy ad En n0 out) (ks_LX n0) 1 6 (ks_F n0) := by
  refine vx_ofWH (cc := cL_core) (maxL := 5) (ret := some .int) (hh := [(0, 10, 13, 13), (0, 10, 17, 17)]) (by decide) rfl ?_
  intro p e s m args below meth c s₁ B hml hv
  obtain ⟨rfl, hU, hN, hNC⟩ := hv
  have hx := B.exec
  have hb := B.bytes
  have hr := B.returns
  have hown : s.vm.findClass RL = some m.cls := findClass_of_methodNamed B.named
  have hts := atoms_spec (ws := wsL_core) B.pre
  have hlocks := B.notSynchronized
  have htab : c.exceptionTable.toList = tableOf [(0, 10, 13, 13), (0, 10, 17, 17)] := vx_table (x := yL_core) B (hts _ List.mem_cons_self)
  have hK := hU.2.2
  have hW := hU.2.1
  have hS : va_S (ks_F n0) s.heap s.heap [] := va_S.rf
  have hl := lv_entry ([.ref (ad 0 0 0), .int x1, .int x2, .ref (ad 45 0 0)]) (n := 5) (Nat.le_of_ble_eq_true rfl)
  rw [lg_entry_eq]
  generalize (lg_sl ([.ref (ad 0 0 0), .int x1, .int x2, .ref (ad 45 0 0)]) ++ List.replicate (5 - (lg_sl ([.ref (ad 0 0 0), .int x1, .int x2, .ref (ad 45 0 0)])).length) Slot.unset).toArray = ls at hl ⊢
  unfold f_L_core at hf
  refine lv_aload_n hx hb dL_core_0 rfl (lv_at hl 3 rfl) ?_
  refine lv_iconst (v := 0) hx hb dL_core_1 (by decide) ?_
  refine lv_aload_n hx hb dL_core_2 rfl (lv_at hl 0 rfl) ?_
  refine lv_iload_n hx hb dL_core_3 rfl (lv_at hl 1 rfl) ?_
  refine lv_iload_n hx hb dL_core_4 rfl (lv_at hl 2 rfl) ?_
  obtain ⟨⟨e1 | r1, s1⟩, hc, hf⟩ := ks_bind hf
  · try dsimp only at hf
    refine ks_xcatch (vx_runV (As := [.int x1, .int x2]) (rest := [.int 0, .ref (ad 45 0 0)]) ⟨hx, hb, hml, hown, hts⟩ (m_X4_core l hlt D cy ad En n0 hG (fun k _ => hE k) o hc) (cwV 2 hts gL_core_X4_core rfl rfl rfl (by decide +kernel) ⟨(Nat.le_of_ble_eq_true rfl), (Nat.le_of_ble_eq_true rfl)⟩) ⟨ks_UN.blind, ks_recv hK hW (ks_v0 (i := 0) (j := 0) (hE 0)) (ks_c0 cy ad o 0 0 _) rfl, fun U hU9 hWm => ⟨rfl, ks_UN.now hU hN hS hW hWm.alike hU9⟩⟩ rfl rfl hl.1 rfl (lv_room (Nat.le_of_ble_eq_true rfl)) dL_core_5 ⟨(Nat.le_of_ble_eq_true rfl), (Nat.le_of_ble_eq_true rfl)⟩) ks_noi hS (fun H locs ce q9 hW hS hce hcv hcl => ?_)
    by_cases h0 : e1 = 0
    · rw [if_pos h0] at hf
      subst h0
      refine vx_catch (own := RL) (name := "java/lang/IndexOutOfBoundsException") (E := ks_E 0) hown [] ⟨0, 10, 13, 13⟩ [⟨0, 10, 17, 17⟩] htab (fun z hz => nomatch hz) (by decide) (by decide) (hts (.classLink RL 13 "java/lang/IndexOutOfBoundsException") (by decide +kernel)) (va_Nw.use rfl (hN.1 (.castable "java/lang/IndexOutOfBoundsException" "java/lang/IndexOutOfBoundsException") (by decide +kernel))) hce hcv hcl ?_
      refine lv_astore (lv' := [(4, .ref q9), (0, .ref (ad 0 0 0)), (1, .int x1), (2, .int x2), (3, .ref (ad 45 0 0))]) hx hb dL_core_13 hl (by decide) rfl (fun ls hl => ?_)
      refine lv_iconst (v := 1) hx hb dL_core_15 (by decide) ?_
      exact ks_lret hx hb hr hlocks hU.1 hK (Nat.le_of_ble_eq_true rfl) (Nat.le_of_ble_eq_true rfl) hf hW hS dL_core_16
    rw [if_neg h0] at hf
    by_cases h1 : e1 = 2
    · rw [if_pos h1] at hf
      subst h1
      refine vx_catch (own := RL) (name := "java/lang/IllegalArgumentException") (E := ks_E 2) hown [⟨0, 10, 13, 13⟩] ⟨0, 10, 17, 17⟩ [] htab (List.forall_mem_cons.2 ⟨Or.inr ⟨by decide, "java/lang/IndexOutOfBoundsException", hts (.classLink RL 13 "java/lang/IndexOutOfBoundsException") (by decide +kernel), hNC ("java/lang/IllegalArgumentException", "java/lang/IndexOutOfBoundsException") (by decide +kernel)⟩, (fun z hz => nomatch hz)⟩) (by decide) (by decide) (hts (.classLink RL 17 "java/lang/IllegalArgumentException") (by decide +kernel)) (va_Nw.use rfl (hN.1 (.castable "java/lang/IllegalArgumentException" "java/lang/IllegalArgumentException") (by decide +kernel))) hce hcv hcl ?_
      refine lv_astore (lv' := [(4, .ref q9), (0, .ref (ad 0 0 0)), (1, .int x1), (2, .int x2), (3, .ref (ad 45 0 0))]) hx hb dL_core_17 hl (by decide) rfl (fun ls hl => ?_)
      refine lv_iconst (v := 2) hx hb dL_core_19 (by decide) ?_
      exact ks_lret hx hb hr hlocks hU.1 hK (Nat.le_of_ble_eq_true rfl) (Nat.le_of_ble_eq_true rfl) hf hW hS dL_core_20
    rw [if_neg h1] at hf
    exact absurd hf (by simp)
  try dsimp only at hf
  refine ks_xcalli (vx_runV (As := [.int x1, .int x2]) (rest := [.int 0, .ref (ad 45 0 0)]) ⟨hx, hb, hml, hown, hts⟩ (m_X4_core l hlt D cy ad En n0 hG (fun k _ => hE k) o hc) (cwV 2 hts gL_core_X4_core rfl rfl rfl (by decide +kernel) ⟨(Nat.le_of_ble_eq_true rfl), (Nat.le_of_ble_eq_true rfl)⟩) ⟨ks_UN.blind, ks_recv hK hW (ks_v0 (i := 0) (j := 0) (hE 0)) (ks_c0 cy ad o 0 0 _) rfl, fun U hU9 hWm => ⟨rfl, ks_UN.now hU hN hS hW hWm.alike hU9⟩⟩ rfl rfl hl.1 rfl (lv_room (Nat.le_of_ble_eq_true rfl)) dL_core_5 ⟨(Nat.le_of_ble_eq_true rfl), (Nat.le_of_ble_eq_true rfl)⟩) hS (fun H locs hW hS => ?_)
  refine lv_i2l (v := r1.toInt64) hx hb dL_core_8 rfl ?_
  refine ks_last hx hb hK hG hW hS (hE 45) dL_core_9 (fun H locs hW hS => ?_)
  refine lv_goto (tgt := 21) hx hb dL_core_10 (by decide) ?_
  refine lv_iconst (v := 0) hx hb dL_core_21 (by decide) ?_
  exact ks_lret hx hb hr hlocks hU.1 hK (Nat.le_of_ble_eq_true rfl) (Nat.le_of_ble_eq_true rfl) hf hW hS dL_core_22

def f_L_row (σ : ks_S) (o : Int64) (x1 : Int32) (x2 : Int32) : Option (Int32 × (ks_S × Int64)) :=
  (f_X4_row σ x1 x2).bind fun q1 => match q1 with | (.inl e1, s1) => if e1 = 0 then some (1, (s1, o)) else none | (.inr r1, s1) => some (0, (s1, r1.toInt64))
set_option maxHeartbeats 4000000 in
set_option maxRecDepth 100000 in
theorem m_L_row (l : Launch) (hlt : l.stackTraces = false) (D : va_G) (cy : Nat → ClassId) (ad : ks_A) (En : Nat → Prop) (n0 : Nat → Prop) (hG : ks_G ad En n0) (hE : ∀ k, En k) (o : Int64) {σ : ks_S} {x1 : Int32} {x2 : Int32} {out : Int32 × (ks_S × Int64)} (hf : f_L_row σ o x1 x2 = some out) : vx_Met l yL_row wsL_row (ks_Rm 7 1 6 103) (va_Pc [.ref (ad 0 0 0), .int x1, .int x2, .ref (ad 45 0 0)] (ks_UL D cy ad En n0 σ o)) (ks_Li D cy ad En n0 out) (ks_LX n0) 1 6 (ks_F n0) := by
  refine vx_ofWH (cc := cL_row) (maxL := 5) (ret := some .int) (hh := [(0, 10, 13, 13)]) (by decide) rfl ?_
  intro p e s m args below meth c s₁ B hml hv
  obtain ⟨rfl, hU, hN, hNC⟩ := hv
  have hx := B.exec
  have hb := B.bytes
  have hr := B.returns
  have hown : s.vm.findClass RL = some m.cls := findClass_of_methodNamed B.named
  have hts := atoms_spec (ws := wsL_row) B.pre
  have hlocks := B.notSynchronized
  have htab : c.exceptionTable.toList = tableOf [(0, 10, 13, 13)] := vx_table (x := yL_row) B (hts _ List.mem_cons_self)
  have hK := hU.2.2
  have hW := hU.2.1
  have hS : va_S (ks_F n0) s.heap s.heap [] := va_S.rf
  have hl := lv_entry ([.ref (ad 0 0 0), .int x1, .int x2, .ref (ad 45 0 0)]) (n := 5) (Nat.le_of_ble_eq_true rfl)
  rw [lg_entry_eq]
  generalize (lg_sl ([.ref (ad 0 0 0), .int x1, .int x2, .ref (ad 45 0 0)]) ++ List.replicate (5 - (lg_sl ([.ref (ad 0 0 0), .int x1, .int x2, .ref (ad 45 0 0)])).length) Slot.unset).toArray = ls at hl ⊢
  unfold f_L_row at hf
  refine lv_aload_n hx hb dL_row_0 rfl (lv_at hl 3 rfl) ?_
  refine lv_iconst (v := 0) hx hb dL_row_1 (by decide) ?_
  refine lv_aload_n hx hb dL_row_2 rfl (lv_at hl 0 rfl) ?_
  refine lv_iload_n hx hb dL_row_3 rfl (lv_at hl 1 rfl) ?_
  refine lv_iload_n hx hb dL_row_4 rfl (lv_at hl 2 rfl) ?_
  obtain ⟨⟨e1 | r1, s1⟩, hc, hf⟩ := ks_bind hf
  · try dsimp only at hf
    refine ks_xcatch (vx_runV (As := [.int x1, .int x2]) (rest := [.int 0, .ref (ad 45 0 0)]) ⟨hx, hb, hml, hown, hts⟩ (m_X4_row l hlt D cy ad En n0 hG (fun k _ => hE k) o hc) (cwV 2 hts gL_row_X4_row rfl rfl rfl (by decide +kernel) ⟨(Nat.le_of_ble_eq_true rfl), (Nat.le_of_ble_eq_true rfl)⟩) ⟨ks_UN.blind, ks_recv hK hW (ks_v0 (i := 0) (j := 0) (hE 0)) (ks_c0 cy ad o 0 0 _) rfl, fun U hU9 hWm => ⟨rfl, ks_UN.now hU hN hS hW hWm.alike hU9⟩⟩ rfl rfl hl.1 rfl (lv_room (Nat.le_of_ble_eq_true rfl)) dL_row_5 ⟨(Nat.le_of_ble_eq_true rfl), (Nat.le_of_ble_eq_true rfl)⟩) ks_noi hS (fun H locs ce q9 hW hS hce hcv hcl => ?_)
    by_cases h0 : e1 = 0
    · rw [if_pos h0] at hf
      subst h0
      refine vx_catch (own := RL) (name := "java/lang/IndexOutOfBoundsException") (E := ks_E 0) hown [] ⟨0, 10, 13, 13⟩ [] htab (fun z hz => nomatch hz) (by decide) (by decide) (hts (.classLink RL 13 "java/lang/IndexOutOfBoundsException") (by decide +kernel)) (va_Nw.use rfl (hN.1 (.castable "java/lang/IndexOutOfBoundsException" "java/lang/IndexOutOfBoundsException") (by decide +kernel))) hce hcv hcl ?_
      refine lv_astore (lv' := [(4, .ref q9), (0, .ref (ad 0 0 0)), (1, .int x1), (2, .int x2), (3, .ref (ad 45 0 0))]) hx hb dL_row_13 hl (by decide) rfl (fun ls hl => ?_)
      refine lv_iconst (v := 1) hx hb dL_row_15 (by decide) ?_
      exact ks_lret hx hb hr hlocks hU.1 hK (Nat.le_of_ble_eq_true rfl) (Nat.le_of_ble_eq_true rfl) hf hW hS dL_row_16
    rw [if_neg h0] at hf
    exact absurd hf (by simp)
  try dsimp only at hf
  refine ks_xcalli (vx_runV (As := [.int x1, .int x2]) (rest := [.int 0, .ref (ad 45 0 0)]) ⟨hx, hb, hml, hown, hts⟩ (m_X4_row l hlt D cy ad En n0 hG (fun k _ => hE k) o hc) (cwV 2 hts gL_row_X4_row rfl rfl rfl (by decide +kernel) ⟨(Nat.le_of_ble_eq_true rfl), (Nat.le_of_ble_eq_true rfl)⟩) ⟨ks_UN.blind, ks_recv hK hW (ks_v0 (i := 0) (j := 0) (hE 0)) (ks_c0 cy ad o 0 0 _) rfl, fun U hU9 hWm => ⟨rfl, ks_UN.now hU hN hS hW hWm.alike hU9⟩⟩ rfl rfl hl.1 rfl (lv_room (Nat.le_of_ble_eq_true rfl)) dL_row_5 ⟨(Nat.le_of_ble_eq_true rfl), (Nat.le_of_ble_eq_true rfl)⟩) hS (fun H locs hW hS => ?_)
  refine lv_i2l (v := r1.toInt64) hx hb dL_row_8 rfl ?_
  refine ks_last hx hb hK hG hW hS (hE 45) dL_row_9 (fun H locs hW hS => ?_)
  refine lv_goto (tgt := 17) hx hb dL_row_10 (by decide) ?_
  refine lv_iconst (v := 0) hx hb dL_row_17 (by decide) ?_
  exact ks_lret hx hb hr hlocks hU.1 hK (Nat.le_of_ble_eq_true rfl) (Nat.le_of_ble_eq_true rfl) hf hW hS dL_row_18

def f_L_jobs (σ : ks_S) (o : Int64) (x1 : Int32) (x2 : Int32) : Option (Int32 × (ks_S × Int64)) :=
  (f_X4_jobs σ x1 x2).bind fun q1 => match q1 with | (.inl e1, s1) => if e1 = 0 then some (1, (s1, o)) else if e1 = 2 then some (2, (s1, o)) else none | (.inr r1, s1) => some (0, (s1, r1.toInt64))
set_option maxHeartbeats 4000000 in
set_option maxRecDepth 100000 in
theorem m_L_jobs (l : Launch) (hlt : l.stackTraces = false) (D : va_G) (cy : Nat → ClassId) (ad : ks_A) (En : Nat → Prop) (n0 : Nat → Prop) (hG : ks_G ad En n0) (hE : ∀ k, En k) (o : Int64) {σ : ks_S} {x1 : Int32} {x2 : Int32} {out : Int32 × (ks_S × Int64)} (hf : f_L_jobs σ o x1 x2 = some out) : vx_Met l yL_jobs wsL_jobs (ks_Rm 8 2 12 125) (va_Pc [.ref (ad 0 0 0), .int x1, .int x2, .ref (ad 45 0 0)] (ks_UL D cy ad En n0 σ o)) (ks_Li D cy ad En n0 out) (ks_LX n0) 2 12 (ks_F n0) := by
  refine vx_ofWH (cc := cL_jobs) (maxL := 5) (ret := some .int) (hh := [(0, 10, 13, 13), (0, 10, 17, 17)]) (by decide) rfl ?_
  intro p e s m args below meth c s₁ B hml hv
  obtain ⟨rfl, hU, hN, hNC⟩ := hv
  have hx := B.exec
  have hb := B.bytes
  have hr := B.returns
  have hown : s.vm.findClass RL = some m.cls := findClass_of_methodNamed B.named
  have hts := atoms_spec (ws := wsL_jobs) B.pre
  have hlocks := B.notSynchronized
  have htab : c.exceptionTable.toList = tableOf [(0, 10, 13, 13), (0, 10, 17, 17)] := vx_table (x := yL_jobs) B (hts _ List.mem_cons_self)
  have hK := hU.2.2
  have hW := hU.2.1
  have hS : va_S (ks_F n0) s.heap s.heap [] := va_S.rf
  have hl := lv_entry ([.ref (ad 0 0 0), .int x1, .int x2, .ref (ad 45 0 0)]) (n := 5) (Nat.le_of_ble_eq_true rfl)
  rw [lg_entry_eq]
  generalize (lg_sl ([.ref (ad 0 0 0), .int x1, .int x2, .ref (ad 45 0 0)]) ++ List.replicate (5 - (lg_sl ([.ref (ad 0 0 0), .int x1, .int x2, .ref (ad 45 0 0)])).length) Slot.unset).toArray = ls at hl ⊢
  unfold f_L_jobs at hf
  refine lv_aload_n hx hb dL_jobs_0 rfl (lv_at hl 3 rfl) ?_
  refine lv_iconst (v := 0) hx hb dL_jobs_1 (by decide) ?_
  refine lv_aload_n hx hb dL_jobs_2 rfl (lv_at hl 0 rfl) ?_
  refine lv_iload_n hx hb dL_jobs_3 rfl (lv_at hl 1 rfl) ?_
  refine lv_iload_n hx hb dL_jobs_4 rfl (lv_at hl 2 rfl) ?_
  obtain ⟨⟨e1 | r1, s1⟩, hc, hf⟩ := ks_bind hf
  · try dsimp only at hf
    refine ks_xcatch (vx_runV (As := [.int x1, .int x2]) (rest := [.int 0, .ref (ad 45 0 0)]) ⟨hx, hb, hml, hown, hts⟩ (m_X4_jobs l hlt D cy ad En n0 hG (fun k _ => hE k) o hc) (cwV 2 hts gL_jobs_X4_jobs rfl rfl rfl (by decide +kernel) ⟨(Nat.le_of_ble_eq_true rfl), (Nat.le_of_ble_eq_true rfl)⟩) ⟨ks_UN.blind, ks_recv hK hW (ks_v0 (i := 0) (j := 0) (hE 0)) (ks_c0 cy ad o 0 0 _) rfl, fun U hU9 hWm => ⟨rfl, ks_UN.now hU hN hS hW hWm.alike hU9⟩⟩ rfl rfl hl.1 rfl (lv_room (Nat.le_of_ble_eq_true rfl)) dL_jobs_5 ⟨(Nat.le_of_ble_eq_true rfl), (Nat.le_of_ble_eq_true rfl)⟩) ks_noi hS (fun H locs ce q9 hW hS hce hcv hcl => ?_)
    by_cases h0 : e1 = 0
    · rw [if_pos h0] at hf
      subst h0
      refine vx_catch (own := RL) (name := "java/lang/IndexOutOfBoundsException") (E := ks_E 0) hown [] ⟨0, 10, 13, 13⟩ [⟨0, 10, 17, 17⟩] htab (fun z hz => nomatch hz) (by decide) (by decide) (hts (.classLink RL 13 "java/lang/IndexOutOfBoundsException") (by decide +kernel)) (va_Nw.use rfl (hN.1 (.castable "java/lang/IndexOutOfBoundsException" "java/lang/IndexOutOfBoundsException") (by decide +kernel))) hce hcv hcl ?_
      refine lv_astore (lv' := [(4, .ref q9), (0, .ref (ad 0 0 0)), (1, .int x1), (2, .int x2), (3, .ref (ad 45 0 0))]) hx hb dL_jobs_13 hl (by decide) rfl (fun ls hl => ?_)
      refine lv_iconst (v := 1) hx hb dL_jobs_15 (by decide) ?_
      exact ks_lret hx hb hr hlocks hU.1 hK (Nat.le_of_ble_eq_true rfl) (Nat.le_of_ble_eq_true rfl) hf hW hS dL_jobs_16
    rw [if_neg h0] at hf
    by_cases h1 : e1 = 2
    · rw [if_pos h1] at hf
      subst h1
      refine vx_catch (own := RL) (name := "java/lang/IllegalArgumentException") (E := ks_E 2) hown [⟨0, 10, 13, 13⟩] ⟨0, 10, 17, 17⟩ [] htab (List.forall_mem_cons.2 ⟨Or.inr ⟨by decide, "java/lang/IndexOutOfBoundsException", hts (.classLink RL 13 "java/lang/IndexOutOfBoundsException") (by decide +kernel), hNC ("java/lang/IllegalArgumentException", "java/lang/IndexOutOfBoundsException") (by decide +kernel)⟩, (fun z hz => nomatch hz)⟩) (by decide) (by decide) (hts (.classLink RL 17 "java/lang/IllegalArgumentException") (by decide +kernel)) (va_Nw.use rfl (hN.1 (.castable "java/lang/IllegalArgumentException" "java/lang/IllegalArgumentException") (by decide +kernel))) hce hcv hcl ?_
      refine lv_astore (lv' := [(4, .ref q9), (0, .ref (ad 0 0 0)), (1, .int x1), (2, .int x2), (3, .ref (ad 45 0 0))]) hx hb dL_jobs_17 hl (by decide) rfl (fun ls hl => ?_)
      refine lv_iconst (v := 2) hx hb dL_jobs_19 (by decide) ?_
      exact ks_lret hx hb hr hlocks hU.1 hK (Nat.le_of_ble_eq_true rfl) (Nat.le_of_ble_eq_true rfl) hf hW hS dL_jobs_20
    rw [if_neg h1] at hf
    exact absurd hf (by simp)
  try dsimp only at hf
  refine ks_xcalli (vx_runV (As := [.int x1, .int x2]) (rest := [.int 0, .ref (ad 45 0 0)]) ⟨hx, hb, hml, hown, hts⟩ (m_X4_jobs l hlt D cy ad En n0 hG (fun k _ => hE k) o hc) (cwV 2 hts gL_jobs_X4_jobs rfl rfl rfl (by decide +kernel) ⟨(Nat.le_of_ble_eq_true rfl), (Nat.le_of_ble_eq_true rfl)⟩) ⟨ks_UN.blind, ks_recv hK hW (ks_v0 (i := 0) (j := 0) (hE 0)) (ks_c0 cy ad o 0 0 _) rfl, fun U hU9 hWm => ⟨rfl, ks_UN.now hU hN hS hW hWm.alike hU9⟩⟩ rfl rfl hl.1 rfl (lv_room (Nat.le_of_ble_eq_true rfl)) dL_jobs_5 ⟨(Nat.le_of_ble_eq_true rfl), (Nat.le_of_ble_eq_true rfl)⟩) hS (fun H locs hW hS => ?_)
  refine lv_i2l (v := r1.toInt64) hx hb dL_jobs_8 rfl ?_
  refine ks_last hx hb hK hG hW hS (hE 45) dL_jobs_9 (fun H locs hW hS => ?_)
  refine lv_goto (tgt := 21) hx hb dL_jobs_10 (by decide) ?_
  refine lv_iconst (v := 0) hx hb dL_jobs_21 (by decide) ?_
  exact ks_lret hx hb hr hlocks hU.1 hK (Nat.le_of_ble_eq_true rfl) (Nat.le_of_ble_eq_true rfl) hf hW hS dL_jobs_22

def f_L_spun (σ : ks_S) (o : Int64) (x1 : Int32) (x2 : Int32) : Option (Int32 × (ks_S × Int64)) :=
  (f_X4_spun σ x1 x2).bind fun q1 => match q1 with | (.inl e1, s1) => if e1 = 0 then some (1, (s1, o)) else none | (.inr r1, s1) => some (0, (s1, r1.toInt64))
set_option maxHeartbeats 4000000 in
set_option maxRecDepth 100000 in
theorem m_L_spun (l : Launch) (hlt : l.stackTraces = false) (D : va_G) (cy : Nat → ClassId) (ad : ks_A) (En : Nat → Prop) (n0 : Nat → Prop) (hG : ks_G ad En n0) (hE : ∀ k, En k) (o : Int64) {σ : ks_S} {x1 : Int32} {x2 : Int32} {out : Int32 × (ks_S × Int64)} (hf : f_L_spun σ o x1 x2 = some out) : vx_Met l yL_spun wsL_spun (ks_Rm 8 2 12 124) (va_Pc [.ref (ad 0 0 0), .int x1, .int x2, .ref (ad 45 0 0)] (ks_UL D cy ad En n0 σ o)) (ks_Li D cy ad En n0 out) (ks_LX n0) 2 12 (ks_F n0) := by
  refine vx_ofWH (cc := cL_spun) (maxL := 5) (ret := some .int) (hh := [(0, 10, 13, 13)]) (by decide) rfl ?_
  intro p e s m args below meth c s₁ B hml hv
  obtain ⟨rfl, hU, hN, hNC⟩ := hv
  have hx := B.exec
  have hb := B.bytes
  have hr := B.returns
  have hown : s.vm.findClass RL = some m.cls := findClass_of_methodNamed B.named
  have hts := atoms_spec (ws := wsL_spun) B.pre
  have hlocks := B.notSynchronized
  have htab : c.exceptionTable.toList = tableOf [(0, 10, 13, 13)] := vx_table (x := yL_spun) B (hts _ List.mem_cons_self)
  have hK := hU.2.2
  have hW := hU.2.1
  have hS : va_S (ks_F n0) s.heap s.heap [] := va_S.rf
  have hl := lv_entry ([.ref (ad 0 0 0), .int x1, .int x2, .ref (ad 45 0 0)]) (n := 5) (Nat.le_of_ble_eq_true rfl)
  rw [lg_entry_eq]
  generalize (lg_sl ([.ref (ad 0 0 0), .int x1, .int x2, .ref (ad 45 0 0)]) ++ List.replicate (5 - (lg_sl ([.ref (ad 0 0 0), .int x1, .int x2, .ref (ad 45 0 0)])).length) Slot.unset).toArray = ls at hl ⊢
  unfold f_L_spun at hf
  refine lv_aload_n hx hb dL_spun_0 rfl (lv_at hl 3 rfl) ?_
  refine lv_iconst (v := 0) hx hb dL_spun_1 (by decide) ?_
  refine lv_aload_n hx hb dL_spun_2 rfl (lv_at hl 0 rfl) ?_
  refine lv_iload_n hx hb dL_spun_3 rfl (lv_at hl 1 rfl) ?_
  refine lv_iload_n hx hb dL_spun_4 rfl (lv_at hl 2 rfl) ?_
  obtain ⟨⟨e1 | r1, s1⟩, hc, hf⟩ := ks_bind hf
  · try dsimp only at hf
    refine ks_xcatch (vx_runV (As := [.int x1, .int x2]) (rest := [.int 0, .ref (ad 45 0 0)]) ⟨hx, hb, hml, hown, hts⟩ (m_X4_spun l hlt D cy ad En n0 hG (fun k _ => hE k) o hc) (cwV 2 hts gL_spun_X4_spun rfl rfl rfl (by decide +kernel) ⟨(Nat.le_of_ble_eq_true rfl), (Nat.le_of_ble_eq_true rfl)⟩) ⟨ks_UN.blind, ks_recv hK hW (ks_v0 (i := 0) (j := 0) (hE 0)) (ks_c0 cy ad o 0 0 _) rfl, fun U hU9 hWm => ⟨rfl, ks_UN.now hU hN hS hW hWm.alike hU9⟩⟩ rfl rfl hl.1 rfl (lv_room (Nat.le_of_ble_eq_true rfl)) dL_spun_5 ⟨(Nat.le_of_ble_eq_true rfl), (Nat.le_of_ble_eq_true rfl)⟩) ks_noi hS (fun H locs ce q9 hW hS hce hcv hcl => ?_)
    by_cases h0 : e1 = 0
    · rw [if_pos h0] at hf
      subst h0
      refine vx_catch (own := RL) (name := "java/lang/IndexOutOfBoundsException") (E := ks_E 0) hown [] ⟨0, 10, 13, 13⟩ [] htab (fun z hz => nomatch hz) (by decide) (by decide) (hts (.classLink RL 13 "java/lang/IndexOutOfBoundsException") (by decide +kernel)) (va_Nw.use rfl (hN.1 (.castable "java/lang/IndexOutOfBoundsException" "java/lang/IndexOutOfBoundsException") (by decide +kernel))) hce hcv hcl ?_
      refine lv_astore (lv' := [(4, .ref q9), (0, .ref (ad 0 0 0)), (1, .int x1), (2, .int x2), (3, .ref (ad 45 0 0))]) hx hb dL_spun_13 hl (by decide) rfl (fun ls hl => ?_)
      refine lv_iconst (v := 1) hx hb dL_spun_15 (by decide) ?_
      exact ks_lret hx hb hr hlocks hU.1 hK (Nat.le_of_ble_eq_true rfl) (Nat.le_of_ble_eq_true rfl) hf hW hS dL_spun_16
    rw [if_neg h0] at hf
    exact absurd hf (by simp)
  try dsimp only at hf
  refine ks_xcalli (vx_runV (As := [.int x1, .int x2]) (rest := [.int 0, .ref (ad 45 0 0)]) ⟨hx, hb, hml, hown, hts⟩ (m_X4_spun l hlt D cy ad En n0 hG (fun k _ => hE k) o hc) (cwV 2 hts gL_spun_X4_spun rfl rfl rfl (by decide +kernel) ⟨(Nat.le_of_ble_eq_true rfl), (Nat.le_of_ble_eq_true rfl)⟩) ⟨ks_UN.blind, ks_recv hK hW (ks_v0 (i := 0) (j := 0) (hE 0)) (ks_c0 cy ad o 0 0 _) rfl, fun U hU9 hWm => ⟨rfl, ks_UN.now hU hN hS hW hWm.alike hU9⟩⟩ rfl rfl hl.1 rfl (lv_room (Nat.le_of_ble_eq_true rfl)) dL_spun_5 ⟨(Nat.le_of_ble_eq_true rfl), (Nat.le_of_ble_eq_true rfl)⟩) hS (fun H locs hW hS => ?_)
  refine lv_i2l (v := r1.toInt64) hx hb dL_spun_8 rfl ?_
  refine ks_last hx hb hK hG hW hS (hE 45) dL_spun_9 (fun H locs hW hS => ?_)
  refine lv_goto (tgt := 17) hx hb dL_spun_10 (by decide) ?_
  refine lv_iconst (v := 0) hx hb dL_spun_17 (by decide) ?_
  exact ks_lret hx hb hr hlocks hU.1 hK (Nat.le_of_ble_eq_true rfl) (Nat.le_of_ble_eq_true rfl) hf hW hS dL_spun_18
