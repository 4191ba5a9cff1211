def f_law_8 (N : Nat) (xs : Nat → Int32) (L : Nat) (k : ks_S → Int64 → Int32 → Option Bool) (σ : ks_S) (o : Int64) (i : Int32) : Option Bool :=
  (if ks_in ((i + 1)) L = true then ((f_L_arrive N σ o ((xs ((i + 1)).toNatClampNeg))).bind fun (r3, (s2, o5)) => (if ks_in ((i + 1)) L = true then ((f_X5_arrive N s2 ((xs ((i + 1)).toNatClampNeg))).bind fun (r8, s7) => ((f_X5_thrown s7).bind fun (r11, s10) => (if r11 = r3 then (if r3 = 0 then (if r8 = 0 then (if ((lg_cmp o5 0)) = 0 then k s10 o5 ((i + 7)) else some false) else (if ((lg_cmp o5 1)) = 0 then k s10 o5 ((i + 7)) else some false)) else k s10 o5 ((i + 7))) else some false))) else none)) else none)
set_option maxHeartbeats 4000000 in
set_option maxRecDepth 100000 in
theorem t_law_8 {p : Program} {l : Launch} {e : Env} {s : State} {m : MethodId} {below : List Frame} {meth : Method} {c : Code} {b L : Nat} {xs : Nat → Int32} {D : va_G} {cy : Nat → ClassId} {ad : ks_A} {En : Nat → Prop} {n0 : Nat → Prop} {N : Nat} {k : ks_S → Int64 → Int32 → Option Bool} (hlt : l.stackTraces = false) (C0 : lw_At p s m meth c b L xs) (hn0 : True) (hbA : ¬ ks_F n0 b) (hK : va_K D vwCl (ks_t cy) s) (hN : ks_N n0 s) (hNC : ks_NC s) (hG : ks_G ad En n0) (hE : ∀ k, En k) {c9 z9 : Nat} (hc9 : c9 + 8 ≤ 607239) (hz9 : z9 + 48 ≤ 7274386) (hk : ∀ (σ : ks_S) (o : Int64) (i : Int32), k σ o i = some true → ∀ {H : Heap} {locs : List Loc} {ls : Array Slot}, ks_W D cy ad En σ o H → va_S (ks_F n0) s.heap H locs → lv_has ls 7 [(0, .ref b), (1, .ref (ad 0 0 0)), (2, .ref (ad 14 0 0)), (3, .ref (ad 45 0 0)), (4, .int i)] → ∀ {c8 z8 : Nat}, c8 ≤ c9 + 8 → z8 ≤ z9 + 48 → W p l e room_1 s m #[Value.ref b] below meth c H locs c8 z8 (lw_Z below #[Value.ref b] s) (F0 m 23 ls [])) {σ : ks_S} {o : Int64} {i : Int32} (hf : f_law_8 N xs L k σ o i = some true) {H : Heap} {locs : List Loc} {ls : Array Slot} (hW : ks_W D cy ad En σ o H) (hS : va_S (ks_F n0) s.heap H locs) (hl : lv_has ls 7 [(0, .ref b), (1, .ref (ad 0 0 0)), (2, .ref (ad 14 0 0)), (3, .ref (ad 45 0 0)), (4, .int i)]) : W p l e room_1 s m #[Value.ref b] below meth c H locs c9 z9 (lw_Z below #[Value.ref b] s) (F0 m 618 ls []) := by
  obtain ⟨hx, hb, hr, hml, hown, hts0, hX, hbl, hlocks, hgv⟩ := id C0
  have hts : ∀ w ∈ wsL_law, w.before #[Value.ref b] s = true := fun w h => hts0 w (wsL_law_in w h)
  unfold f_law_8 at hf
  refine lv_aload_n hx hb dL_law_618 rfl (lv_at hl 1 rfl) ?_
  refine lv_aload_n hx hb dL_law_619 rfl (lv_at hl 0 rfl) ?_
  refine lv_iload hx hb dL_law_620 (lv_at hl 4 rfl) ?_
  refine lv_iconst (v := 1) hx hb dL_law_622 (by decide) ?_
  refine lv_iadd hx hb dL_law_623 ?_
  obtain ⟨hi1, hf⟩ := ks_guard hf
  refine va_sld hx hb hX hbl hbA hS (ks_in_vp hi1) dL_law_624 ?_
  refine lv_aload_n hx hb dL_law_625 rfl (lv_at hl 3 rfl) ?_
  obtain ⟨⟨r3, s2, o5⟩, hc4, hf⟩ := ks_bind hf
  try dsimp only at hf
  refine ks_lcall (vx_runSX (hh := [(0, 16, 19, 13), (0, 16, 22, 15)]) (As := [.ref (ad 0 0 0), .int (xs ((i + 1)).toNatClampNeg), .ref (ad 45 0 0)]) (rest := []) ⟨hx, hb, hml, hown, hts⟩ (m_L_arrive l hlt D cy ad En n0 hG hE o hc4) (vx_cwSW 3 hts gL_law_L_arrive rfl rfl rfl (by decide +kernel) ⟨(Nat.le_of_ble_eq_true rfl), (Nat.le_of_ble_eq_true rfl)⟩) ⟨ks_UL.blind, fun U hU9 hWm => ⟨rfl, ks_at hn0 hK hS hW hWm.alike hU9, hN.now hS hWm.alike hU9, hNC.moved hWm.alike⟩⟩ rfl rfl hl.1 rfl (lv_room (Nat.le_of_ble_eq_true rfl)) dL_law_626 ⟨show c9 + 2 ≤ 607239 by omega, show z9 + 12 ≤ 7274386 by omega⟩) hS (fun H locs hW hS => ?_)
  refine lv_istore (lv' := [(5, .int r3), (0, .ref b), (1, .ref (ad 0 0 0)), (2, .ref (ad 14 0 0)), (3, .ref (ad 45 0 0)), (4, .int i)]) hx hb dL_law_629 hl (by decide) rfl (fun ls hl => ?_)
  refine lv_aload_n hx hb dL_law_631 rfl (lv_at hl 3 rfl) ?_
  refine lv_aload_n hx hb dL_law_632 rfl (lv_at hl 1 rfl) ?_
  refine lv_iload hx hb dL_law_633 (lv_at hl 5 rfl) ?_
  refine lv_iconst (v := 1) hx hb dL_law_635 (by decide) ?_
  refine lv_iadd hx hb dL_law_636 ?_
  obtain ⟨hi6, hf⟩ := ks_guard hf
  refine va_sld hx hb hX hbl hbA hS (ks_in_vp hi6) dL_law_637 ?_
  obtain ⟨⟨r8, s7⟩, hc9, hf⟩ := ks_bind hf
  try dsimp only at hf
  refine ks_calli (va_runV (As := [.int (xs ((i + 1)).toNatClampNeg)]) (rest := []) ⟨hx, hb, hml, hown, hts⟩ (m_X5_arrive l D cy ad En n0 hG (fun k _ => hE k) o5 hc9) (cwV 1 hts gL_law_X5_arrive rfl rfl rfl (by decide +kernel) ⟨(Nat.le_of_ble_eq_true rfl), (Nat.le_of_ble_eq_true rfl)⟩) ⟨ks_U.blind, ks_recv hK hW (ks_v14 (i := 0) (j := 0) (hE 14)) (ks_c14 cy ad _ 0 0 _) rfl, fun U hU9 hWm => ⟨rfl, ks_at hn0 hK hS hW hWm.alike hU9⟩⟩ rfl rfl hl.1 rfl (lv_room (Nat.le_of_ble_eq_true rfl)) dL_law_638 ⟨show (c9 + 2) + 0 ≤ 607239 by omega, show (z9 + 12) + 0 ≤ 7274386 by omega⟩) hS (fun H locs hW hS => ?_)
  refine lv_istore (lv' := [(6, .int r8), (5, .int r3), (0, .ref b), (1, .ref (ad 0 0 0)), (2, .ref (ad 14 0 0)), (3, .ref (ad 45 0 0)), (4, .int i)]) hx hb dL_law_641 hl (by decide) rfl (fun ls hl => ?_)
  refine lv_aload_n hx hb dL_law_643 rfl (lv_at hl 4 rfl) ?_
  obtain ⟨⟨r11, s10⟩, hc12, hf⟩ := ks_bind hf
  try dsimp only at hf
  refine ks_calli (va_runV (As := []) (rest := []) ⟨hx, hb, hml, hown, hts⟩ (m_X5_thrown l D cy ad En n0 hG (fun k _ => hE k) o5 hc12) (cwV 0 hts gL_law_X5_thrown rfl rfl rfl (by decide +kernel) ⟨(Nat.le_of_ble_eq_true rfl), (Nat.le_of_ble_eq_true rfl)⟩) ⟨ks_U.blind, ks_recv hK hW (ks_v14 (i := 0) (j := 0) (hE 14)) (ks_c14 cy ad _ 0 0 _) rfl, fun U hU9 hWm => ⟨rfl, ks_at hn0 hK hS hW hWm.alike hU9⟩⟩ rfl rfl hl.1 rfl (lv_room (Nat.le_of_ble_eq_true rfl)) dL_law_644 ⟨show (c9 + 2) + 0 ≤ 607239 by omega, show (z9 + 12) + 0 ≤ 7274386 by omega⟩) hS (fun H locs hW hS => ?_)
  refine lv_iload hx hb dL_law_647 (lv_at hl 1 rfl) ?_
  refine lv_icmp_eq (tgt := 654) hx hb dL_law_649 (by decide) (fun c13 => ?_) (fun c13 => ?_)
  · rw [if_pos c13] at hf
    refine lv_iload hx hb dL_law_654 (lv_at hl 1 rfl) ?_
    refine lv_if_ne (tgt := 678) hx hb dL_law_656 (by decide) (fun c14 => ?_) (fun c14 => ?_)
    · rw [if_neg c14] at hf
      refine lv_goto (tgt := 1082) hx hb dL_law_678 (by decide) ?_
      refine lv_iinc (v := (i + 7)) (lv' := [(4, .int (i + 7)), (6, .int r8), (5, .int r3), (0, .ref b), (1, .ref (ad 0 0 0)), (2, .ref (ad 14 0 0)), (3, .ref (ad 45 0 0))]) hx hb dL_law_1082 hl (k := 6) rfl rfl (by decide) rfl (fun ls hl => ?_)
      refine lv_goto (tgt := 23) hx hb dL_law_1085 (by decide) ?_
      exact hk s10 o5 ((i + 7)) hf hW hS (lv_sub hl [3, 4, 5, 6, 0] rfl) (by omega) (by omega)
    · rw [if_pos c14] at hf
      refine lv_aload_n hx hb dL_law_659 rfl (lv_at hl 5 rfl) ?_
      refine lv_iconst (v := 0) hx hb dL_law_660 (by decide) ?_
      refine ks_lald (H0 := s.heap) hx hb hK hW (hE 45) dL_law_661 ?_
      refine lv_iload hx hb dL_law_662 (lv_at hl 0 rfl) ?_
      refine lv_if_eq (tgt := 671) hx hb dL_law_664 (by decide) (fun c15 => ?_) (fun c15 => ?_)
      · rw [if_pos c15] at hf
        refine lv_lconst (v := 0) hx hb dL_law_671 (by decide) ?_
        refine W.lcmp hx hb dL_law_672 ?_
        refine lv_if_eq (tgt := 678) hx hb dL_law_673 (by decide) (fun c16 => ?_) (fun c16 => ?_)
        · rw [if_pos c16] at hf
          refine lv_goto (tgt := 1082) hx hb dL_law_678 (by decide) ?_
          refine lv_iinc (v := (i + 7)) (lv' := [(4, .int (i + 7)), (6, .int r8), (5, .int r3), (0, .ref b), (1, .ref (ad 0 0 0)), (2, .ref (ad 14 0 0)), (3, .ref (ad 45 0 0))]) hx hb dL_law_1082 hl (k := 6) rfl rfl (by decide) rfl (fun ls hl => ?_)
          refine lv_goto (tgt := 23) hx hb dL_law_1085 (by decide) ?_
          exact hk s10 o5 ((i + 7)) hf hW hS (lv_sub hl [3, 4, 5, 6, 0] rfl) (by omega) (by omega)
        · rw [if_neg c16] at hf
          refine lv_iconst (v := 0) hx hb dL_law_676 (by decide) ?_
          exact absurd hf (by simp)
      · rw [if_neg c15] at hf
        refine lv_lconst (v := 1) hx hb dL_law_667 (by decide) ?_
        refine lv_goto (tgt := 672) hx hb dL_law_668 (by decide) ?_
        refine W.lcmp hx hb dL_law_672 ?_
        refine lv_if_eq (tgt := 678) hx hb dL_law_673 (by decide) (fun c17 => ?_) (fun c17 => ?_)
        · rw [if_pos c17] at hf
          refine lv_goto (tgt := 1082) hx hb dL_law_678 (by decide) ?_
          refine lv_iinc (v := (i + 7)) (lv' := [(4, .int (i + 7)), (6, .int r8), (5, .int r3), (0, .ref b), (1, .ref (ad 0 0 0)), (2, .ref (ad 14 0 0)), (3, .ref (ad 45 0 0))]) hx hb dL_law_1082 hl (k := 6) rfl rfl (by decide) rfl (fun ls hl => ?_)
          refine lv_goto (tgt := 23) hx hb dL_law_1085 (by decide) ?_
          exact hk s10 o5 ((i + 7)) hf hW hS (lv_sub hl [3, 4, 5, 6, 0] rfl) (by omega) (by omega)
        · rw [if_neg c17] at hf
          refine lv_iconst (v := 0) hx hb dL_law_676 (by decide) ?_
          exact absurd hf (by simp)
  · rw [if_neg c13] at hf
    refine lv_iconst (v := 0) hx hb dL_law_652 (by decide) ?_
    exact absurd hf (by simp)
def f_law_9 (N : Nat) (xs : Nat → Int32) (L : Nat) (k : ks_S → Int64 → Int32 → Option Bool) (σ : ks_S) (o : Int64) (i : Int32) : Option Bool :=
  (if ks_in ((i + 1)) L = true then (if ks_in ((i + 2)) L = true then (if ks_in ((i + 3)) L = true then ((f_L_shorten σ o ((xs ((i + 1)).toNatClampNeg)) ((xs ((i + 2)).toNatClampNeg)) ((xs ((i + 3)).toNatClampNeg))).bind fun (r5, (s4, o7)) => (if ks_in ((i + 1)) L = true then (if ks_in ((i + 2)) L = true then (if ks_in ((i + 3)) L = true then ((f_X5_shorten s4 ((xs ((i + 1)).toNatClampNeg)) ((xs ((i + 2)).toNatClampNeg)) ((xs ((i + 3)).toNatClampNeg))).bind fun s11 => ((f_X5_thrown s11).bind fun (r15, s14) => (if r15 = r5 then k s14 o7 ((i + 7)) else some false))) else none) else none) else none)) else none) else none) else none)
set_option maxHeartbeats 4000000 in
set_option maxRecDepth 100000 in
theorem t_law_9 {p : Program} {l : Launch} {e : Env} {s : State} {m : MethodId} {below : List Frame} {meth : Method} {c : Code} {b L : Nat} {xs : Nat → Int32} {D : va_G} {cy : Nat → ClassId} {ad : ks_A} {En : Nat → Prop} {n0 : Nat → Prop} {N : Nat} {k : ks_S → Int64 → Int32 → Option Bool} (hlt : l.stackTraces = false) (C0 : lw_At p s m meth c b L xs) (hn0 : True) (hbA : ¬ ks_F n0 b) (hK : va_K D vwCl (ks_t cy) s) (hN : ks_N n0 s) (hNC : ks_NC s) (hG : ks_G ad En n0) (hE : ∀ k, En k) {c9 z9 : Nat} (hc9 : c9 + 8 ≤ 607239) (hz9 : z9 + 48 ≤ 7274386) (hk : ∀ (σ : ks_S) (o : Int64) (i : Int32), k σ o i = some true → ∀ {H : Heap} {locs : List Loc} {ls : Array Slot}, ks_W D cy ad En σ o H → va_S (ks_F n0) s.heap H locs → lv_has ls 7 [(0, .ref b), (1, .ref (ad 0 0 0)), (2, .ref (ad 14 0 0)), (3, .ref (ad 45 0 0)), (4, .int i)] → ∀ {c8 z8 : Nat}, c8 ≤ c9 + 8 → z8 ≤ z9 + 48 → W p l e room_1 s m #[Value.ref b] below meth c H locs c8 z8 (lw_Z below #[Value.ref b] s) (F0 m 23 ls [])) {σ : ks_S} {o : Int64} {i : Int32} (hf : f_law_9 N xs L k σ o i = some true) {H : Heap} {locs : List Loc} {ls : Array Slot} (hW : ks_W D cy ad En σ o H) (hS : va_S (ks_F n0) s.heap H locs) (hl : lv_has ls 7 [(0, .ref b), (1, .ref (ad 0 0 0)), (2, .ref (ad 14 0 0)), (3, .ref (ad 45 0 0)), (4, .int i)]) : W p l e room_1 s m #[Value.ref b] below meth c H locs c9 z9 (lw_Z below #[Value.ref b] s) (F0 m 681 ls []) := by
  obtain ⟨hx, hb, hr, hml, hown, hts0, hX, hbl, hlocks, hgv⟩ := id C0
  have hts : ∀ w ∈ wsL_law, w.before #[Value.ref b] s = true := fun w h => hts0 w (wsL_law_in w h)
  unfold f_law_9 at hf
  refine lv_aload_n hx hb dL_law_681 rfl (lv_at hl 1 rfl) ?_
  refine lv_aload_n hx hb dL_law_682 rfl (lv_at hl 0 rfl) ?_
  refine lv_iload hx hb dL_law_683 (lv_at hl 4 rfl) ?_
  refine lv_iconst (v := 1) hx hb dL_law_685 (by decide) ?_
  refine lv_iadd hx hb dL_law_686 ?_
  obtain ⟨hi1, hf⟩ := ks_guard hf
  refine va_sld hx hb hX hbl hbA hS (ks_in_vp hi1) dL_law_687 ?_
  refine lv_aload_n hx hb dL_law_688 rfl (lv_at hl 0 rfl) ?_
  refine lv_iload hx hb dL_law_689 (lv_at hl 4 rfl) ?_
  refine lv_iconst (v := 2) hx hb dL_law_691 (by decide) ?_
  refine lv_iadd hx hb dL_law_692 ?_
  obtain ⟨hi2, hf⟩ := ks_guard hf
  refine va_sld hx hb hX hbl hbA hS (ks_in_vp hi2) dL_law_693 ?_
  refine lv_aload_n hx hb dL_law_694 rfl (lv_at hl 0 rfl) ?_
  refine lv_iload hx hb dL_law_695 (lv_at hl 4 rfl) ?_
  refine lv_iconst (v := 3) hx hb dL_law_697 (by decide) ?_
  refine lv_iadd hx hb dL_law_698 ?_
  obtain ⟨hi3, hf⟩ := ks_guard hf
  refine va_sld hx hb hX hbl hbA hS (ks_in_vp hi3) dL_law_699 ?_
  obtain ⟨⟨r5, s4, o7⟩, hc6, hf⟩ := ks_bind hf
  try dsimp only at hf
  refine ks_lcall (vx_runSX (hh := [(0, 7, 10, 13), (0, 7, 14, 15), (0, 7, 18, 17)]) (As := [.ref (ad 0 0 0), .int (xs ((i + 1)).toNatClampNeg), .int (xs ((i + 2)).toNatClampNeg), .int (xs ((i + 3)).toNatClampNeg)]) (rest := []) ⟨hx, hb, hml, hown, hts⟩ (m_L_shorten l hlt D cy ad En n0 hG hE o hc6) (vx_cwSW 4 hts gL_law_L_shorten rfl rfl rfl (by decide +kernel) ⟨(Nat.le_of_ble_eq_true rfl), (Nat.le_of_ble_eq_true rfl)⟩) ⟨ks_UL.blind, fun U hU9 hWm => ⟨rfl, ks_at hn0 hK hS hW hWm.alike hU9, hN.now hS hWm.alike hU9, hNC.moved hWm.alike⟩⟩ rfl rfl hl.1 rfl (lv_room (Nat.le_of_ble_eq_true rfl)) dL_law_700 ⟨show c9 + 3 ≤ 607239 by omega, show z9 + 18 ≤ 7274386 by omega⟩) hS (fun H locs hW hS => ?_)
  refine lv_istore (lv' := [(5, .int r5), (0, .ref b), (1, .ref (ad 0 0 0)), (2, .ref (ad 14 0 0)), (3, .ref (ad 45 0 0)), (4, .int i)]) hx hb dL_law_703 hl (by decide) rfl (fun ls hl => ?_)
  refine lv_aload_n hx hb dL_law_705 rfl (lv_at hl 3 rfl) ?_
  refine lv_aload_n hx hb dL_law_706 rfl (lv_at hl 1 rfl) ?_
  refine lv_iload hx hb dL_law_707 (lv_at hl 5 rfl) ?_
  refine lv_iconst (v := 1) hx hb dL_law_709 (by decide) ?_
  refine lv_iadd hx hb dL_law_710 ?_
  obtain ⟨hi8, hf⟩ := ks_guard hf
  refine va_sld hx hb hX hbl hbA hS (ks_in_vp hi8) dL_law_711 ?_
  refine lv_aload_n hx hb dL_law_712 rfl (lv_at hl 1 rfl) ?_
  refine lv_iload hx hb dL_law_713 (lv_at hl 5 rfl) ?_
  refine lv_iconst (v := 2) hx hb dL_law_715 (by decide) ?_
  refine lv_iadd hx hb dL_law_716 ?_
  obtain ⟨hi9, hf⟩ := ks_guard hf
  refine va_sld hx hb hX hbl hbA hS (ks_in_vp hi9) dL_law_717 ?_
  refine lv_aload_n hx hb dL_law_718 rfl (lv_at hl 1 rfl) ?_
  refine lv_iload hx hb dL_law_719 (lv_at hl 5 rfl) ?_
  refine lv_iconst (v := 3) hx hb dL_law_721 (by decide) ?_
  refine lv_iadd hx hb dL_law_722 ?_
  obtain ⟨hi10, hf⟩ := ks_guard hf
  refine va_sld hx hb hX hbl hbA hS (ks_in_vp hi10) dL_law_723 ?_
  obtain ⟨s11, hc13, hf⟩ := ks_bind hf
  try dsimp only at hf
  refine ks_callv (va_runV (As := [.int (xs ((i + 1)).toNatClampNeg), .int (xs ((i + 2)).toNatClampNeg), .int (xs ((i + 3)).toNatClampNeg)]) (rest := []) ⟨hx, hb, hml, hown, hts⟩ (m_X5_shorten l D cy ad En n0 hG (fun k _ => hE k) o7 hc13) (cwV 3 hts gL_law_X5_shorten rfl rfl rfl (by decide +kernel) ⟨(Nat.le_of_ble_eq_true rfl), (Nat.le_of_ble_eq_true rfl)⟩) ⟨ks_U.blind, ks_recv hK hW (ks_v14 (i := 0) (j := 0) (hE 14)) (ks_c14 cy ad _ 0 0 _) rfl, fun U hU9 hWm => ⟨rfl, ks_at hn0 hK hS hW hWm.alike hU9⟩⟩ rfl rfl hl.1 rfl (lv_room (Nat.le_of_ble_eq_true rfl)) dL_law_724 ⟨show (c9 + 3) + 0 ≤ 607239 by omega, show (z9 + 18) + 0 ≤ 7274386 by omega⟩) hS (fun H locs hW hS => ?_)
  refine lv_aload_n hx hb dL_law_727 rfl (lv_at hl 3 rfl) ?_
  obtain ⟨⟨r15, s14⟩, hc16, hf⟩ := ks_bind hf
  try dsimp only at hf
  refine ks_calli (va_runV (As := []) (rest := []) ⟨hx, hb, hml, hown, hts⟩ (m_X5_thrown l D cy ad En n0 hG (fun k _ => hE k) o7 hc16) (cwV 0 hts gL_law_X5_thrown rfl rfl rfl (by decide +kernel) ⟨(Nat.le_of_ble_eq_true rfl), (Nat.le_of_ble_eq_true rfl)⟩) ⟨ks_U.blind, ks_recv hK hW (ks_v14 (i := 0) (j := 0) (hE 14)) (ks_c14 cy ad _ 0 0 _) rfl, fun U hU9 hWm => ⟨rfl, ks_at hn0 hK hS hW hWm.alike hU9⟩⟩ rfl rfl hl.1 rfl (lv_room (Nat.le_of_ble_eq_true rfl)) dL_law_728 ⟨show (c9 + 3) + 0 ≤ 607239 by omega, show (z9 + 18) + 0 ≤ 7274386 by omega⟩) hS (fun H locs hW hS => ?_)
  refine lv_iload hx hb dL_law_731 (lv_at hl 0 rfl) ?_
  refine lv_icmp_eq (tgt := 738) hx hb dL_law_733 (by decide) (fun c17 => ?_) (fun c17 => ?_)
  · rw [if_pos c17] at hf
    refine lv_goto (tgt := 1082) hx hb dL_law_738 (by decide) ?_
    refine lv_iinc (v := (i + 7)) (lv' := [(4, .int (i + 7)), (5, .int r5), (0, .ref b), (1, .ref (ad 0 0 0)), (2, .ref (ad 14 0 0)), (3, .ref (ad 45 0 0))]) hx hb dL_law_1082 hl (k := 5) rfl rfl (by decide) rfl (fun ls hl => ?_)
    refine lv_goto (tgt := 23) hx hb dL_law_1085 (by decide) ?_
    exact hk s14 o7 ((i + 7)) hf hW hS (lv_sub hl [2, 3, 4, 5, 0] rfl) (by omega) (by omega)
  · rw [if_neg c17] at hf
    refine lv_iconst (v := 0) hx hb dL_law_736 (by decide) ?_
    exact absurd hf (by simp)
def f_law_10 (N : Nat) (xs : Nat → Int32) (L : Nat) (k : ks_S → Int64 → Int32 → Option Bool) (σ : ks_S) (o : Int64) (i : Int32) : Option Bool :=
  (if ks_in ((i + 1)) L = true then ((f_L_tick N σ o ((xs ((i + 1)).toNatClampNeg))).bind fun (r3, (s2, o5)) => (if ks_in ((i + 1)) L = true then ((f_X5_tick N s2 ((xs ((i + 1)).toNatClampNeg))).bind fun (r8, s7) => ((f_X5_thrown s7).bind fun (r11, s10) => (if r11 = r3 then (if r3 = 0 then (if ((lg_cmp o5 r8.toInt64)) = 0 then k s10 o5 ((i + 7)) else some false) else k s10 o5 ((i + 7))) else some false))) else none)) else none)
set_option maxHeartbeats 4000000 in
set_option maxRecDepth 100000 in
theorem t_law_10 {p : Program} {l : Launch} {e : Env} {s : State} {m : MethodId} {below : List Frame} {meth : Method} {c : Code} {b L : Nat} {xs : Nat → Int32} {D : va_G} {cy : Nat → ClassId} {ad : ks_A} {En : Nat → Prop} {n0 : Nat → Prop} {N : Nat} {k : ks_S → Int64 → Int32 → Option Bool} (hlt : l.stackTraces = false) (C0 : lw_At p s m meth c b L xs) (hn0 : True) (hbA : ¬ ks_F n0 b) (hK : va_K D vwCl (ks_t cy) s) (hN : ks_N n0 s) (hNC : ks_NC s) (hG : ks_G ad En n0) (hE : ∀ k, En k) {c9 z9 : Nat} (hc9 : c9 + 8 ≤ 607239) (hz9 : z9 + 48 ≤ 7274386) (hk : ∀ (σ : ks_S) (o : Int64) (i : Int32), k σ o i = some true → ∀ {H : Heap} {locs : List Loc} {ls : Array Slot}, ks_W D cy ad En σ o H → va_S (ks_F n0) s.heap H locs → lv_has ls 7 [(0, .ref b), (1, .ref (ad 0 0 0)), (2, .ref (ad 14 0 0)), (3, .ref (ad 45 0 0)), (4, .int i)] → ∀ {c8 z8 : Nat}, c8 ≤ c9 + 8 → z8 ≤ z9 + 48 → W p l e room_1 s m #[Value.ref b] below meth c H locs c8 z8 (lw_Z below #[Value.ref b] s) (F0 m 23 ls [])) {σ : ks_S} {o : Int64} {i : Int32} (hf : f_law_10 N xs L k σ o i = some true) {H : Heap} {locs : List Loc} {ls : Array Slot} (hW : ks_W D cy ad En σ o H) (hS : va_S (ks_F n0) s.heap H locs) (hl : lv_has ls 7 [(0, .ref b), (1, .ref (ad 0 0 0)), (2, .ref (ad 14 0 0)), (3, .ref (ad 45 0 0)), (4, .int i)]) : W p l e room_1 s m #[Value.ref b] below meth c H locs c9 z9 (lw_Z below #[Value.ref b] s) (F0 m 741 ls []) := by
  obtain ⟨hx, hb, hr, hml, hown, hts0, hX, hbl, hlocks, hgv⟩ := id C0
  have hts : ∀ w ∈ wsL_law, w.before #[Value.ref b] s = true := fun w h => hts0 w (wsL_law_in w h)
  unfold f_law_10 at hf
  refine lv_aload_n hx hb dL_law_741 rfl (lv_at hl 1 rfl) ?_
  refine lv_aload_n hx hb dL_law_742 rfl (lv_at hl 0 rfl) ?_
  refine lv_iload hx hb dL_law_743 (lv_at hl 4 rfl) ?_
  refine lv_iconst (v := 1) hx hb dL_law_745 (by decide) ?_
  refine lv_iadd hx hb dL_law_746 ?_
  obtain ⟨hi1, hf⟩ := ks_guard hf
  refine va_sld hx hb hX hbl hbA hS (ks_in_vp hi1) dL_law_747 ?_
  refine lv_aload_n hx hb dL_law_748 rfl (lv_at hl 3 rfl) ?_
  obtain ⟨⟨r3, s2, o5⟩, hc4, hf⟩ := ks_bind hf
  try dsimp only at hf
  refine ks_lcall (vx_runSX (hh := [(0, 9, 12, 15), (0, 9, 15, 17)]) (As := [.ref (ad 0 0 0), .int (xs ((i + 1)).toNatClampNeg), .ref (ad 45 0 0)]) (rest := []) ⟨hx, hb, hml, hown, hts⟩ (m_L_tick l hlt D cy ad En n0 hG hE o hc4) (vx_cwSW 3 hts gL_law_L_tick rfl rfl rfl (by decide +kernel) ⟨(Nat.le_of_ble_eq_true rfl), (Nat.le_of_ble_eq_true rfl)⟩) ⟨ks_UL.blind, fun U hU9 hWm => ⟨rfl, ks_at hn0 hK hS hW hWm.alike hU9, hN.now hS hWm.alike hU9, hNC.moved hWm.alike⟩⟩ rfl rfl hl.1 rfl (lv_room (Nat.le_of_ble_eq_true rfl)) dL_law_749 ⟨show c9 + 1 ≤ 607239 by omega, show z9 + 6 ≤ 7274386 by omega⟩) hS (fun H locs hW hS => ?_)
  refine lv_istore (lv' := [(5, .int r3), (0, .ref b), (1, .ref (ad 0 0 0)), (2, .ref (ad 14 0 0)), (3, .ref (ad 45 0 0)), (4, .int i)]) hx hb dL_law_752 hl (by decide) rfl (fun ls hl => ?_)
  refine lv_aload_n hx hb dL_law_754 rfl (lv_at hl 3 rfl) ?_
  refine lv_aload_n hx hb dL_law_755 rfl (lv_at hl 1 rfl) ?_
  refine lv_iload hx hb dL_law_756 (lv_at hl 5 rfl) ?_
  refine lv_iconst (v := 1) hx hb dL_law_758 (by decide) ?_
  refine lv_iadd hx hb dL_law_759 ?_
  obtain ⟨hi6, hf⟩ := ks_guard hf
  refine va_sld hx hb hX hbl hbA hS (ks_in_vp hi6) dL_law_760 ?_
  obtain ⟨⟨r8, s7⟩, hc9, hf⟩ := ks_bind hf
  try dsimp only at hf
  refine ks_calli (va_runV (As := [.int (xs ((i + 1)).toNatClampNeg)]) (rest := []) ⟨hx, hb, hml, hown, hts⟩ (m_X5_tick l D cy ad En n0 hG (fun k _ => hE k) o5 hc9) (cwV 1 hts gL_law_X5_tick rfl rfl rfl (by decide +kernel) ⟨(Nat.le_of_ble_eq_true rfl), (Nat.le_of_ble_eq_true rfl)⟩) ⟨ks_U.blind, ks_recv hK hW (ks_v14 (i := 0) (j := 0) (hE 14)) (ks_c14 cy ad _ 0 0 _) rfl, fun U hU9 hWm => ⟨rfl, ks_at hn0 hK hS hW hWm.alike hU9⟩⟩ rfl rfl hl.1 rfl (lv_room (Nat.le_of_ble_eq_true rfl)) dL_law_761 ⟨show (c9 + 1) + 0 ≤ 607239 by omega, show (z9 + 6) + 0 ≤ 7274386 by omega⟩) hS (fun H locs hW hS => ?_)
  refine lv_istore (lv' := [(6, .int r8), (5, .int r3), (0, .ref b), (1, .ref (ad 0 0 0)), (2, .ref (ad 14 0 0)), (3, .ref (ad 45 0 0)), (4, .int i)]) hx hb dL_law_764 hl (by decide) rfl (fun ls hl => ?_)
  refine lv_aload_n hx hb dL_law_766 rfl (lv_at hl 4 rfl) ?_
  obtain ⟨⟨r11, s10⟩, hc12, hf⟩ := ks_bind hf
  try dsimp only at hf
  refine ks_calli (va_runV (As := []) (rest := []) ⟨hx, hb, hml, hown, hts⟩ (m_X5_thrown l D cy ad En n0 hG (fun k _ => hE k) o5 hc12) (cwV 0 hts gL_law_X5_thrown rfl rfl rfl (by decide +kernel) ⟨(Nat.le_of_ble_eq_true rfl), (Nat.le_of_ble_eq_true rfl)⟩) ⟨ks_U.blind, ks_recv hK hW (ks_v14 (i := 0) (j := 0) (hE 14)) (ks_c14 cy ad _ 0 0 _) rfl, fun U hU9 hWm => ⟨rfl, ks_at hn0 hK hS hW hWm.alike hU9⟩⟩ rfl rfl hl.1 rfl (lv_room (Nat.le_of_ble_eq_true rfl)) dL_law_767 ⟨show (c9 + 1) + 0 ≤ 607239 by omega, show (z9 + 6) + 0 ≤ 7274386 by omega⟩) hS (fun H locs hW hS => ?_)
  refine lv_iload hx hb dL_law_770 (lv_at hl 1 rfl) ?_
  refine lv_icmp_eq (tgt := 777) hx hb dL_law_772 (by decide) (fun c13 => ?_) (fun c13 => ?_)
  · rw [if_pos c13] at hf
    refine lv_iload hx hb dL_law_777 (lv_at hl 1 rfl) ?_
    refine lv_if_ne (tgt := 794) hx hb dL_law_779 (by decide) (fun c14 => ?_) (fun c14 => ?_)
    · rw [if_neg c14] at hf
      refine lv_goto (tgt := 1082) hx hb dL_law_794 (by decide) ?_
      refine lv_iinc (v := (i + 7)) (lv' := [(4, .int (i + 7)), (6, .int r8), (5, .int r3), (0, .ref b), (1, .ref (ad 0 0 0)), (2, .ref (ad 14 0 0)), (3, .ref (ad 45 0 0))]) hx hb dL_law_1082 hl (k := 6) rfl rfl (by decide) rfl (fun ls hl => ?_)
      refine lv_goto (tgt := 23) hx hb dL_law_1085 (by decide) ?_
      exact hk s10 o5 ((i + 7)) hf hW hS (lv_sub hl [3, 4, 5, 6, 0] rfl) (by omega) (by omega)
    · rw [if_pos c14] at hf
      refine lv_aload_n hx hb dL_law_782 rfl (lv_at hl 5 rfl) ?_
      refine lv_iconst (v := 0) hx hb dL_law_783 (by decide) ?_
      refine ks_lald (H0 := s.heap) hx hb hK hW (hE 45) dL_law_784 ?_
      refine lv_iload hx hb dL_law_785 (lv_at hl 0 rfl) ?_
      refine lv_i2l (v := r8.toInt64) hx hb dL_law_787 rfl ?_
      refine W.lcmp hx hb dL_law_788 ?_
      refine lv_if_eq (tgt := 794) hx hb dL_law_789 (by decide) (fun c15 => ?_) (fun c15 => ?_)
      · rw [if_pos c15] at hf
        refine lv_goto (tgt := 1082) hx hb dL_law_794 (by decide) ?_
        refine lv_iinc (v := (i + 7)) (lv' := [(4, .int (i + 7)), (6, .int r8), (5, .int r3), (0, .ref b), (1, .ref (ad 0 0 0)), (2, .ref (ad 14 0 0)), (3, .ref (ad 45 0 0))]) hx hb dL_law_1082 hl (k := 6) rfl rfl (by decide) rfl (fun ls hl => ?_)
        refine lv_goto (tgt := 23) hx hb dL_law_1085 (by decide) ?_
        exact hk s10 o5 ((i + 7)) hf hW hS (lv_sub hl [3, 4, 5, 6, 0] rfl) (by omega) (by omega)
      · rw [if_neg c15] at hf
        refine lv_iconst (v := 0) hx hb dL_law_792 (by decide) ?_
        exact absurd hf (by simp)
  · rw [if_neg c13] at hf
    refine lv_iconst (v := 0) hx hb dL_law_775 (by decide) ?_
    exact absurd hf (by simp)
def f_law_11 (N : Nat) (xs : Nat → Int32) (L : Nat) (k : ks_S → Int64 → Int32 → Option Bool) (σ : ks_S) (o : Int64) (i : Int32) : Option Bool :=
  (if ks_in ((i + 1)) L = true then (if ks_in ((i + 2)) L = true then ((f_L_core σ o ((xs ((i + 1)).toNatClampNeg)) ((xs ((i + 2)).toNatClampNeg))).bind fun (r4, (s3, o6)) => (if ks_in ((i + 1)) L = true then (if ks_in ((i + 2)) L = true then ((f_X5_core s3 ((xs ((i + 1)).toNatClampNeg)) ((xs ((i + 2)).toNatClampNeg))).bind fun (r10, s9) => ((f_X5_thrown s9).bind fun (r13, s12) => (if r13 = r4 then (if r4 = 0 then (if ((lg_cmp o6 r10.toInt64)) = 0 then k s12 o6 ((i + 7)) else some false) else k s12 o6 ((i + 7))) else some false))) else none) else none)) else none) else none)
set_option maxHeartbeats 4000000 in
set_option maxRecDepth 100000 in
theorem t_law_11 {p : Program} {l : Launch} {e : Env} {s : State} {m : MethodId} {below : List Frame} {meth : Method} {c : Code} {b L : Nat} {xs : Nat → Int32} {D : va_G} {cy : Nat → ClassId} {ad : ks_A} {En : Nat → Prop} {n0 : Nat → Prop} {N : Nat} {k : ks_S → Int64 → Int32 → Option Bool} (hlt : l.stackTraces = false) (C0 : lw_At p s m meth c b L xs) (hn0 : True) (hbA : ¬ ks_F n0 b) (hK : va_K D vwCl (ks_t cy) s) (hN : ks_N n0 s) (hNC : ks_NC s) (hG : ks_G ad En n0) (hE : ∀ k, En k) {c9 z9 : Nat} (hc9 : c9 + 8 ≤ 607239) (hz9 : z9 + 48 ≤ 7274386) (hk : ∀ (σ : ks_S) (o : Int64) (i : Int32), k σ o i = some true → ∀ {H : Heap} {locs : List Loc} {ls : Array Slot}, ks_W D cy ad En σ o H → va_S (ks_F n0) s.heap H locs → lv_has ls 7 [(0, .ref b), (1, .ref (ad 0 0 0)), (2, .ref (ad 14 0 0)), (3, .ref (ad 45 0 0)), (4, .int i)] → ∀ {c8 z8 : Nat}, c8 ≤ c9 + 8 → z8 ≤ z9 + 48 → W p l e room_1 s m #[Value.ref b] below meth c H locs c8 z8 (lw_Z below #[Value.ref b] s) (F0 m 23 ls [])) {σ : ks_S} {o : Int64} {i : Int32} (hf : f_law_11 N xs L k σ o i = some true) {H : Heap} {locs : List Loc} {ls : Array Slot} (hW : ks_W D cy ad En σ o H) (hS : va_S (ks_F n0) s.heap H locs) (hl : lv_has ls 7 [(0, .ref b), (1, .ref (ad 0 0 0)), (2, .ref (ad 14 0 0)), (3, .ref (ad 45 0 0)), (4, .int i)]) : W p l e room_1 s m #[Value.ref b] below meth c H locs c9 z9 (lw_Z below #[Value.ref b] s) (F0 m 797 ls []) := by
  obtain ⟨hx, hb, hr, hml, hown, hts0, hX, hbl, hlocks, hgv⟩ := id C0
  have hts : ∀ w ∈ wsL_law, w.before #[Value.ref b] s = true := fun w h => hts0 w (wsL_law_in w h)
  unfold f_law_11 at hf
  refine lv_aload_n hx hb dL_law_797 rfl (lv_at hl 1 rfl) ?_
  refine lv_aload_n hx hb dL_law_798 rfl (lv_at hl 0 rfl) ?_
  refine lv_iload hx hb dL_law_799 (lv_at hl 4 rfl) ?_
  refine lv_iconst (v := 1) hx hb dL_law_801 (by decide) ?_
  refine lv_iadd hx hb dL_law_802 ?_
  obtain ⟨hi1, hf⟩ := ks_guard hf
  refine va_sld hx hb hX hbl hbA hS (ks_in_vp hi1) dL_law_803 ?_
  refine lv_aload_n hx hb dL_law_804 rfl (lv_at hl 0 rfl) ?_
  refine lv_iload hx hb dL_law_805 (lv_at hl 4 rfl) ?_
  refine lv_iconst (v := 2) hx hb dL_law_807 (by decide) ?_
  refine lv_iadd hx hb dL_law_808 ?_
  obtain ⟨hi2, hf⟩ := ks_guard hf
  refine va_sld hx hb hX hbl hbA hS (ks_in_vp hi2) dL_law_809 ?_
  refine lv_aload_n hx hb dL_law_810 rfl (lv_at hl 3 rfl) ?_
  obtain ⟨⟨r4, s3, o6⟩, hc5, hf⟩ := ks_bind hf
  try dsimp only at hf
  refine ks_lcall (vx_runSX (hh := [(0, 10, 13, 13), (0, 10, 17, 17)]) (As := [.ref (ad 0 0 0), .int (xs ((i + 1)).toNatClampNeg), .int (xs ((i + 2)).toNatClampNeg), .ref (ad 45 0 0)]) (rest := []) ⟨hx, hb, hml, hown, hts⟩ (m_L_core l hlt D cy ad En n0 hG hE o hc5) (vx_cwSW 4 hts gL_law_L_core rfl rfl rfl (by decide +kernel) ⟨(Nat.le_of_ble_eq_true rfl), (Nat.le_of_ble_eq_true rfl)⟩) ⟨ks_UL.blind, fun U hU9 hWm => ⟨rfl, ks_at hn0 hK hS hW hWm.alike hU9, hN.now hS hWm.alike hU9, hNC.moved hWm.alike⟩⟩ rfl rfl hl.1 rfl (lv_room (Nat.le_of_ble_eq_true rfl)) dL_law_811 ⟨show c9 + 1 ≤ 607239 by omega, show z9 + 6 ≤ 7274386 by omega⟩) hS (fun H locs hW hS => ?_)
  refine lv_istore (lv' := [(5, .int r4), (0, .ref b), (1, .ref (ad 0 0 0)), (2, .ref (ad 14 0 0)), (3, .ref (ad 45 0 0)), (4, .int i)]) hx hb dL_law_814 hl (by decide) rfl (fun ls hl => ?_)
  refine lv_aload_n hx hb dL_law_816 rfl (lv_at hl 3 rfl) ?_
  refine lv_aload_n hx hb dL_law_817 rfl (lv_at hl 1 rfl) ?_
  refine lv_iload hx hb dL_law_818 (lv_at hl 5 rfl) ?_
  refine lv_iconst (v := 1) hx hb dL_law_820 (by decide) ?_
  refine lv_iadd hx hb dL_law_821 ?_
  obtain ⟨hi7, hf⟩ := ks_guard hf
  refine va_sld hx hb hX hbl hbA hS (ks_in_vp hi7) dL_law_822 ?_
  refine lv_aload_n hx hb dL_law_823 rfl (lv_at hl 1 rfl) ?_
  refine lv_iload hx hb dL_law_824 (lv_at hl 5 rfl) ?_
  refine lv_iconst (v := 2) hx hb dL_law_826 (by decide) ?_
  refine lv_iadd hx hb dL_law_827 ?_
  obtain ⟨hi8, hf⟩ := ks_guard hf
  refine va_sld hx hb hX hbl hbA hS (ks_in_vp hi8) dL_law_828 ?_
  obtain ⟨⟨r10, s9⟩, hc11, hf⟩ := ks_bind hf
  try dsimp only at hf
  refine ks_calli (va_runV (As := [.int (xs ((i + 1)).toNatClampNeg), .int (xs ((i + 2)).toNatClampNeg)]) (rest := []) ⟨hx, hb, hml, hown, hts⟩ (m_X5_core l D cy ad En n0 hG (fun k _ => hE k) o6 hc11) (cwV 2 hts gL_law_X5_core rfl rfl rfl (by decide +kernel) ⟨(Nat.le_of_ble_eq_true rfl), (Nat.le_of_ble_eq_true rfl)⟩) ⟨ks_U.blind, ks_recv hK hW (ks_v14 (i := 0) (j := 0) (hE 14)) (ks_c14 cy ad _ 0 0 _) rfl, fun U hU9 hWm => ⟨rfl, ks_at hn0 hK hS hW hWm.alike hU9⟩⟩ rfl rfl hl.1 rfl (lv_room (Nat.le_of_ble_eq_true rfl)) dL_law_829 ⟨show (c9 + 1) + 0 ≤ 607239 by omega, show (z9 + 6) + 0 ≤ 7274386 by omega⟩) hS (fun H locs hW hS => ?_)
  refine lv_istore (lv' := [(6, .int r10), (5, .int r4), (0, .ref b), (1, .ref (ad 0 0 0)), (2, .ref (ad 14 0 0)), (3, .ref (ad 45 0 0)), (4, .int i)]) hx hb dL_law_832 hl (by decide) rfl (fun ls hl => ?_)
  refine lv_aload_n hx hb dL_law_834 rfl (lv_at hl 4 rfl) ?_
  obtain ⟨⟨r13, s12⟩, hc14, hf⟩ := ks_bind hf
  try dsimp only at hf
  refine ks_calli (va_runV (As := []) (rest := []) ⟨hx, hb, hml, hown, hts⟩ (m_X5_thrown l D cy ad En n0 hG (fun k _ => hE k) o6 hc14) (cwV 0 hts gL_law_X5_thrown rfl rfl rfl (by decide +kernel) ⟨(Nat.le_of_ble_eq_true rfl), (Nat.le_of_ble_eq_true rfl)⟩) ⟨ks_U.blind, ks_recv hK hW (ks_v14 (i := 0) (j := 0) (hE 14)) (ks_c14 cy ad _ 0 0 _) rfl, fun U hU9 hWm => ⟨rfl, ks_at hn0 hK hS hW hWm.alike hU9⟩⟩ rfl rfl hl.1 rfl (lv_room (Nat.le_of_ble_eq_true rfl)) dL_law_835 ⟨show (c9 + 1) + 0 ≤ 607239 by omega, show (z9 + 6) + 0 ≤ 7274386 by omega⟩) hS (fun H locs hW hS => ?_)
  refine lv_iload hx hb dL_law_838 (lv_at hl 1 rfl) ?_
  refine lv_icmp_eq (tgt := 845) hx hb dL_law_840 (by decide) (fun c15 => ?_) (fun c15 => ?_)
  · rw [if_pos c15] at hf
    refine lv_iload hx hb dL_law_845 (lv_at hl 1 rfl) ?_
    refine lv_if_ne (tgt := 862) hx hb dL_law_847 (by decide) (fun c16 => ?_) (fun c16 => ?_)
    · rw [if_neg c16] at hf
      refine lv_goto (tgt := 1082) hx hb dL_law_862 (by decide) ?_
      refine lv_iinc (v := (i + 7)) (lv' := [(4, .int (i + 7)), (6, .int r10), (5, .int r4), (0, .ref b), (1, .ref (ad 0 0 0)), (2, .ref (ad 14 0 0)), (3, .ref (ad 45 0 0))]) hx hb dL_law_1082 hl (k := 6) rfl rfl (by decide) rfl (fun ls hl => ?_)
      refine lv_goto (tgt := 23) hx hb dL_law_1085 (by decide) ?_
      exact hk s12 o6 ((i + 7)) hf hW hS (lv_sub hl [3, 4, 5, 6, 0] rfl) (by omega) (by omega)
    · rw [if_pos c16] at hf
      refine lv_aload_n hx hb dL_law_850 rfl (lv_at hl 5 rfl) ?_
      refine lv_iconst (v := 0) hx hb dL_law_851 (by decide) ?_
      refine ks_lald (H0 := s.heap) hx hb hK hW (hE 45) dL_law_852 ?_
      refine lv_iload hx hb dL_law_853 (lv_at hl 0 rfl) ?_
      refine lv_i2l (v := r10.toInt64) hx hb dL_law_855 rfl ?_
      refine W.lcmp hx hb dL_law_856 ?_
      refine lv_if_eq (tgt := 862) hx hb dL_law_857 (by decide) (fun c17 => ?_) (fun c17 => ?_)
      · rw [if_pos c17] at hf
        refine lv_goto (tgt := 1082) hx hb dL_law_862 (by decide) ?_
        refine lv_iinc (v := (i + 7)) (lv' := [(4, .int (i + 7)), (6, .int r10), (5, .int r4), (0, .ref b), (1, .ref (ad 0 0 0)), (2, .ref (ad 14 0 0)), (3, .ref (ad 45 0 0))]) hx hb dL_law_1082 hl (k := 6) rfl rfl (by decide) rfl (fun ls hl => ?_)
        refine lv_goto (tgt := 23) hx hb dL_law_1085 (by decide) ?_
        exact hk s12 o6 ((i + 7)) hf hW hS (lv_sub hl [3, 4, 5, 6, 0] rfl) (by omega) (by omega)
      · rw [if_neg c17] at hf
        refine lv_iconst (v := 0) hx hb dL_law_860 (by decide) ?_
        exact absurd hf (by simp)
  · rw [if_neg c15] at hf
    refine lv_iconst (v := 0) hx hb dL_law_843 (by decide) ?_
    exact absurd hf (by simp)
def f_law_12 (N : Nat) (xs : Nat → Int32) (L : Nat) (k : ks_S → Int64 → Int32 → Option Bool) (σ : ks_S) (o : Int64) (i : Int32) : Option Bool :=
  (if ks_in ((i + 1)) L = true then (if ks_in ((i + 2)) L = true then ((f_L_row σ o ((xs ((i + 1)).toNatClampNeg)) ((xs ((i + 2)).toNatClampNeg))).bind fun (r4, (s3, o6)) => (if ks_in ((i + 1)) L = true then (if ks_in ((i + 2)) L = true then ((f_X5_row N s3 ((xs ((i + 1)).toNatClampNeg)) ((xs ((i + 2)).toNatClampNeg))).bind fun (r10, s9) => ((f_X5_thrown s9).bind fun (r13, s12) => (if r13 = r4 then (if r4 = 0 then (if ((lg_cmp o6 r10.toInt64)) = 0 then k s12 o6 ((i + 7)) else some false) else k s12 o6 ((i + 7))) else some false))) else none) else none)) else none) else none)
set_option maxHeartbeats 4000000 in
set_option maxRecDepth 100000 in
theorem t_law_12 {p : Program} {l : Launch} {e : Env} {s : State} {m : MethodId} {below : List Frame} {meth : Method} {c : Code} {b L : Nat} {xs : Nat → Int32} {D : va_G} {cy : Nat → ClassId} {ad : ks_A} {En : Nat → Prop} {n0 : Nat → Prop} {N : Nat} {k : ks_S → Int64 → Int32 → Option Bool} (hlt : l.stackTraces = false) (C0 : lw_At p s m meth c b L xs) (hn0 : True) (hbA : ¬ ks_F n0 b) (hK : va_K D vwCl (ks_t cy) s) (hN : ks_N n0 s) (hNC : ks_NC s) (hG : ks_G ad En n0) (hE : ∀ k, En k) {c9 z9 : Nat} (hc9 : c9 + 8 ≤ 607239) (hz9 : z9 + 48 ≤ 7274386) (hk : ∀ (σ : ks_S) (o : Int64) (i : Int32), k σ o i = some true → ∀ {H : Heap} {locs : List Loc} {ls : Array Slot}, ks_W D cy ad En σ o H → va_S (ks_F n0) s.heap H locs → lv_has ls 7 [(0, .ref b), (1, .ref (ad 0 0 0)), (2, .ref (ad 14 0 0)), (3, .ref (ad 45 0 0)), (4, .int i)] → ∀ {c8 z8 : Nat}, c8 ≤ c9 + 8 → z8 ≤ z9 + 48 → W p l e room_1 s m #[Value.ref b] below meth c H locs c8 z8 (lw_Z below #[Value.ref b] s) (F0 m 23 ls [])) {σ : ks_S} {o : Int64} {i : Int32} (hf : f_law_12 N xs L k σ o i = some true) {H : Heap} {locs : List Loc} {ls : Array Slot} (hW : ks_W D cy ad En σ o H) (hS : va_S (ks_F n0) s.heap H locs) (hl : lv_has ls 7 [(0, .ref b), (1, .ref (ad 0 0 0)), (2, .ref (ad 14 0 0)), (3, .ref (ad 45 0 0)), (4, .int i)]) : W p l e room_1 s m #[Value.ref b] below meth c H locs c9 z9 (lw_Z below #[Value.ref b] s) (F0 m 865 ls []) := by
  obtain ⟨hx, hb, hr, hml, hown, hts0, hX, hbl, hlocks, hgv⟩ := id C0
  have hts : ∀ w ∈ wsL_law, w.before #[Value.ref b] s = true := fun w h => hts0 w (wsL_law_in w h)
  unfold f_law_12 at hf
  refine lv_aload_n hx hb dL_law_865 rfl (lv_at hl 1 rfl) ?_
  refine lv_aload_n hx hb dL_law_866 rfl (lv_at hl 0 rfl) ?_
  refine lv_iload hx hb dL_law_867 (lv_at hl 4 rfl) ?_
  refine lv_iconst (v := 1) hx hb dL_law_869 (by decide) ?_
  refine lv_iadd hx hb dL_law_870 ?_
  obtain ⟨hi1, hf⟩ := ks_guard hf
  refine va_sld hx hb hX hbl hbA hS (ks_in_vp hi1) dL_law_871 ?_
  refine lv_aload_n hx hb dL_law_872 rfl (lv_at hl 0 rfl) ?_
  refine lv_iload hx hb dL_law_873 (lv_at hl 4 rfl) ?_
  refine lv_iconst (v := 2) hx hb dL_law_875 (by decide) ?_
  refine lv_iadd hx hb dL_law_876 ?_
  obtain ⟨hi2, hf⟩ := ks_guard hf
  refine va_sld hx hb hX hbl hbA hS (ks_in_vp hi2) dL_law_877 ?_
  refine lv_aload_n hx hb dL_law_878 rfl (lv_at hl 3 rfl) ?_
  obtain ⟨⟨r4, s3, o6⟩, hc5, hf⟩ := ks_bind hf
  try dsimp only at hf
  refine ks_lcall (vx_runSX (hh := [(0, 10, 13, 13)]) (As := [.ref (ad 0 0 0), .int (xs ((i + 1)).toNatClampNeg), .int (xs ((i + 2)).toNatClampNeg), .ref (ad 45 0 0)]) (rest := []) ⟨hx, hb, hml, hown, hts⟩ (m_L_row l hlt D cy ad En n0 hG hE o hc5) (vx_cwSW 4 hts gL_law_L_row rfl rfl rfl (by decide +kernel) ⟨(Nat.le_of_ble_eq_true rfl), (Nat.le_of_ble_eq_true rfl)⟩) ⟨ks_UL.blind, fun U hU9 hWm => ⟨rfl, ks_at hn0 hK hS hW hWm.alike hU9, hN.now hS hWm.alike hU9, hNC.moved hWm.alike⟩⟩ rfl rfl hl.1 rfl (lv_room (Nat.le_of_ble_eq_true rfl)) dL_law_879 ⟨show c9 + 1 ≤ 607239 by omega, show z9 + 6 ≤ 7274386 by omega⟩) hS (fun H locs hW hS => ?_)
  refine lv_istore (lv' := [(5, .int r4), (0, .ref b), (1, .ref (ad 0 0 0)), (2, .ref (ad 14 0 0)), (3, .ref (ad 45 0 0)), (4, .int i)]) hx hb dL_law_882 hl (by decide) rfl (fun ls hl => ?_)
  refine lv_aload_n hx hb dL_law_884 rfl (lv_at hl 3 rfl) ?_
  refine lv_aload_n hx hb dL_law_885 rfl (lv_at hl 1 rfl) ?_
  refine lv_iload hx hb dL_law_886 (lv_at hl 5 rfl) ?_
  refine lv_iconst (v := 1) hx hb dL_law_888 (by decide) ?_
  refine lv_iadd hx hb dL_law_889 ?_
  obtain ⟨hi7, hf⟩ := ks_guard hf
  refine va_sld hx hb hX hbl hbA hS (ks_in_vp hi7) dL_law_890 ?_
  refine lv_aload_n hx hb dL_law_891 rfl (lv_at hl 1 rfl) ?_
  refine lv_iload hx hb dL_law_892 (lv_at hl 5 rfl) ?_
  refine lv_iconst (v := 2) hx hb dL_law_894 (by decide) ?_
  refine lv_iadd hx hb dL_law_895 ?_
  obtain ⟨hi8, hf⟩ := ks_guard hf
  refine va_sld hx hb hX hbl hbA hS (ks_in_vp hi8) dL_law_896 ?_
  obtain ⟨⟨r10, s9⟩, hc11, hf⟩ := ks_bind hf
  try dsimp only at hf
  refine ks_calli (va_runV (As := [.int (xs ((i + 1)).toNatClampNeg), .int (xs ((i + 2)).toNatClampNeg)]) (rest := []) ⟨hx, hb, hml, hown, hts⟩ (m_X5_row l D cy ad En n0 hG (fun k _ => hE k) o6 hc11) (cwV 2 hts gL_law_X5_row rfl rfl rfl (by decide +kernel) ⟨(Nat.le_of_ble_eq_true rfl), (Nat.le_of_ble_eq_true rfl)⟩) ⟨ks_U.blind, ks_recv hK hW (ks_v14 (i := 0) (j := 0) (hE 14)) (ks_c14 cy ad _ 0 0 _) rfl, fun U hU9 hWm => ⟨rfl, ks_at hn0 hK hS hW hWm.alike hU9⟩⟩ rfl rfl hl.1 rfl (lv_room (Nat.le_of_ble_eq_true rfl)) dL_law_897 ⟨show (c9 + 1) + 0 ≤ 607239 by omega, show (z9 + 6) + 0 ≤ 7274386 by omega⟩) hS (fun H locs hW hS => ?_)
  refine lv_istore (lv' := [(6, .int r10), (5, .int r4), (0, .ref b), (1, .ref (ad 0 0 0)), (2, .ref (ad 14 0 0)), (3, .ref (ad 45 0 0)), (4, .int i)]) hx hb dL_law_900 hl (by decide) rfl (fun ls hl => ?_)
  refine lv_aload_n hx hb dL_law_902 rfl (lv_at hl 4 rfl) ?_
  obtain ⟨⟨r13, s12⟩, hc14, hf⟩ := ks_bind hf
  try dsimp only at hf
  refine ks_calli (va_runV (As := []) (rest := []) ⟨hx, hb, hml, hown, hts⟩ (m_X5_thrown l D cy ad En n0 hG (fun k _ => hE k) o6 hc14) (cwV 0 hts gL_law_X5_thrown rfl rfl rfl (by decide +kernel) ⟨(Nat.le_of_ble_eq_true rfl), (Nat.le_of_ble_eq_true rfl)⟩) ⟨ks_U.blind, ks_recv hK hW (ks_v14 (i := 0) (j := 0) (hE 14)) (ks_c14 cy ad _ 0 0 _) rfl, fun U hU9 hWm => ⟨rfl, ks_at hn0 hK hS hW hWm.alike hU9⟩⟩ rfl rfl hl.1 rfl (lv_room (Nat.le_of_ble_eq_true rfl)) dL_law_903 ⟨show (c9 + 1) + 0 ≤ 607239 by omega, show (z9 + 6) + 0 ≤ 7274386 by omega⟩) hS (fun H locs hW hS => ?_)
  refine lv_iload hx hb dL_law_906 (lv_at hl 1 rfl) ?_
  refine lv_icmp_eq (tgt := 913) hx hb dL_law_908 (by decide) (fun c15 => ?_) (fun c15 => ?_)
  · rw [if_pos c15] at hf
    refine lv_iload hx hb dL_law_913 (lv_at hl 1 rfl) ?_
    refine lv_if_ne (tgt := 930) hx hb dL_law_915 (by decide) (fun c16 => ?_) (fun c16 => ?_)
    · rw [if_neg c16] at hf
      refine lv_goto (tgt := 1082) hx hb dL_law_930 (by decide) ?_
      refine lv_iinc (v := (i + 7)) (lv' := [(4, .int (i + 7)), (6, .int r10), (5, .int r4), (0, .ref b), (1, .ref (ad 0 0 0)), (2, .ref (ad 14 0 0)), (3, .ref (ad 45 0 0))]) hx hb dL_law_1082 hl (k := 6) rfl rfl (by decide) rfl (fun ls hl => ?_)
      refine lv_goto (tgt := 23) hx hb dL_law_1085 (by decide) ?_
      exact hk s12 o6 ((i + 7)) hf hW hS (lv_sub hl [3, 4, 5, 6, 0] rfl) (by omega) (by omega)
    · rw [if_pos c16] at hf
      refine lv_aload_n hx hb dL_law_918 rfl (lv_at hl 5 rfl) ?_
      refine lv_iconst (v := 0) hx hb dL_law_919 (by decide) ?_
      refine ks_lald (H0 := s.heap) hx hb hK hW (hE 45) dL_law_920 ?_
      refine lv_iload hx hb dL_law_921 (lv_at hl 0 rfl) ?_
      refine lv_i2l (v := r10.toInt64) hx hb dL_law_923 rfl ?_
      refine W.lcmp hx hb dL_law_924 ?_
      refine lv_if_eq (tgt := 930) hx hb dL_law_925 (by decide) (fun c17 => ?_) (fun c17 => ?_)
      · rw [if_pos c17] at hf
        refine lv_goto (tgt := 1082) hx hb dL_law_930 (by decide) ?_
        refine lv_iinc (v := (i + 7)) (lv' := [(4, .int (i + 7)), (6, .int r10), (5, .int r4), (0, .ref b), (1, .ref (ad 0 0 0)), (2, .ref (ad 14 0 0)), (3, .ref (ad 45 0 0))]) hx hb dL_law_1082 hl (k := 6) rfl rfl (by decide) rfl (fun ls hl => ?_)
        refine lv_goto (tgt := 23) hx hb dL_law_1085 (by decide) ?_
        exact hk s12 o6 ((i + 7)) hf hW hS (lv_sub hl [3, 4, 5, 6, 0] rfl) (by omega) (by omega)
      · rw [if_neg c17] at hf
        refine lv_iconst (v := 0) hx hb dL_law_928 (by decide) ?_
        exact absurd hf (by simp)
  · rw [if_neg c15] at hf
    refine lv_iconst (v := 0) hx hb dL_law_911 (by decide) ?_
    exact absurd hf (by simp)
def f_law_13 (N : Nat) (xs : Nat → Int32) (L : Nat) (k : ks_S → Int64 → Int32 → Option Bool) (σ : ks_S) (o : Int64) (i : Int32) : Option Bool :=
  (if ks_in ((i + 1)) L = true then (if ks_in ((i + 2)) L = true then ((f_L_jobs σ o ((xs ((i + 1)).toNatClampNeg)) ((xs ((i + 2)).toNatClampNeg))).bind fun (r4, (s3, o6)) => (if ks_in ((i + 1)) L = true then (if ks_in ((i + 2)) L = true then ((f_X5_jobs s3 ((xs ((i + 1)).toNatClampNeg)) ((xs ((i + 2)).toNatClampNeg))).bind fun (r10, s9) => ((f_X5_thrown s9).bind fun (r13, s12) => (if r13 = r4 then (if r4 = 0 then (if ((lg_cmp o6 r10.toInt64)) = 0 then k s12 o6 ((i + 7)) else some false) else k s12 o6 ((i + 7))) else some false))) else none) else none)) else none) else none)
set_option maxHeartbeats 4000000 in
set_option maxRecDepth 100000 in
theorem t_law_13 {p : Program} {l : Launch} {e : Env} {s : State} {m : MethodId} {below : List Frame} {meth : Method} {c : Code} {b L : Nat} {xs : Nat → Int32} {D : va_G} {cy : Nat → ClassId} {ad : ks_A} {En : Nat → Prop} {n0 : Nat → Prop} {N : Nat} {k : ks_S → Int64 → Int32 → Option Bool} (hlt : l.stackTraces = false) (C0 : lw_At p s m meth c b L xs) (hn0 : True) (hbA : ¬ ks_F n0 b) (hK : va_K D vwCl (ks_t cy) s) (hN : ks_N n0 s) (hNC : ks_NC s) (hG : ks_G ad En n0) (hE : ∀ k, En k) {c9 z9 : Nat} (hc9 : c9 + 8 ≤ 607239) (hz9 : z9 + 48 ≤ 7274386) (hk : ∀ (σ : ks_S) (o : Int64) (i : Int32), k σ o i = some true → ∀ {H : Heap} {locs : List Loc} {ls : Array Slot}, ks_W D cy ad En σ o H → va_S (ks_F n0) s.heap H locs → lv_has ls 7 [(0, .ref b), (1, .ref (ad 0 0 0)), (2, .ref (ad 14 0 0)), (3, .ref (ad 45 0 0)), (4, .int i)] → ∀ {c8 z8 : Nat}, c8 ≤ c9 + 8 → z8 ≤ z9 + 48 → W p l e room_1 s m #[Value.ref b] below meth c H locs c8 z8 (lw_Z below #[Value.ref b] s) (F0 m 23 ls [])) {σ : ks_S} {o : Int64} {i : Int32} (hf : f_law_13 N xs L k σ o i = some true) {H : Heap} {locs : List Loc} {ls : Array Slot} (hW : ks_W D cy ad En σ o H) (hS : va_S (ks_F n0) s.heap H locs) (hl : lv_has ls 7 [(0, .ref b), (1, .ref (ad 0 0 0)), (2, .ref (ad 14 0 0)), (3, .ref (ad 45 0 0)), (4, .int i)]) : W p l e room_1 s m #[Value.ref b] below meth c H locs c9 z9 (lw_Z below #[Value.ref b] s) (F0 m 933 ls []) := by
  obtain ⟨hx, hb, hr, hml, hown, hts0, hX, hbl, hlocks, hgv⟩ := id C0
  have hts : ∀ w ∈ wsL_law, w.before #[Value.ref b] s = true := fun w h => hts0 w (wsL_law_in w h)
  unfold f_law_13 at hf
  refine lv_aload_n hx hb dL_law_933 rfl (lv_at hl 1 rfl) ?_
  refine lv_aload_n hx hb dL_law_934 rfl (lv_at hl 0 rfl) ?_
  refine lv_iload hx hb dL_law_935 (lv_at hl 4 rfl) ?_
  refine lv_iconst (v := 1) hx hb dL_law_937 (by decide) ?_
  refine lv_iadd hx hb dL_law_938 ?_
  obtain ⟨hi1, hf⟩ := ks_guard hf
  refine va_sld hx hb hX hbl hbA hS (ks_in_vp hi1) dL_law_939 ?_
  refine lv_aload_n hx hb dL_law_940 rfl (lv_at hl 0 rfl) ?_
  refine lv_iload hx hb dL_law_941 (lv_at hl 4 rfl) ?_
  refine lv_iconst (v := 2) hx hb dL_law_943 (by decide) ?_
  refine lv_iadd hx hb dL_law_944 ?_
  obtain ⟨hi2, hf⟩ := ks_guard hf
  refine va_sld hx hb hX hbl hbA hS (ks_in_vp hi2) dL_law_945 ?_
  refine lv_aload_n hx hb dL_law_946 rfl (lv_at hl 3 rfl) ?_
  obtain ⟨⟨r4, s3, o6⟩, hc5, hf⟩ := ks_bind hf
  try dsimp only at hf
  refine ks_lcall (vx_runSX (hh := [(0, 10, 13, 13), (0, 10, 17, 17)]) (As := [.ref (ad 0 0 0), .int (xs ((i + 1)).toNatClampNeg), .int (xs ((i + 2)).toNatClampNeg), .ref (ad 45 0 0)]) (rest := []) ⟨hx, hb, hml, hown, hts⟩ (m_L_jobs l hlt D cy ad En n0 hG hE o hc5) (vx_cwSW 4 hts gL_law_L_jobs rfl rfl rfl (by decide +kernel) ⟨(Nat.le_of_ble_eq_true rfl), (Nat.le_of_ble_eq_true rfl)⟩) ⟨ks_UL.blind, fun U hU9 hWm => ⟨rfl, ks_at hn0 hK hS hW hWm.alike hU9, hN.now hS hWm.alike hU9, hNC.moved hWm.alike⟩⟩ rfl rfl hl.1 rfl (lv_room (Nat.le_of_ble_eq_true rfl)) dL_law_947 ⟨show c9 + 2 ≤ 607239 by omega, show z9 + 12 ≤ 7274386 by omega⟩) hS (fun H locs hW hS => ?_)
  refine lv_istore (lv' := [(5, .int r4), (0, .ref b), (1, .ref (ad 0 0 0)), (2, .ref (ad 14 0 0)), (3, .ref (ad 45 0 0)), (4, .int i)]) hx hb dL_law_950 hl (by decide) rfl (fun ls hl => ?_)
  refine lv_aload_n hx hb dL_law_952 rfl (lv_at hl 3 rfl) ?_
  refine lv_aload_n hx hb dL_law_953 rfl (lv_at hl 1 rfl) ?_
  refine lv_iload hx hb dL_law_954 (lv_at hl 5 rfl) ?_
  refine lv_iconst (v := 1) hx hb dL_law_956 (by decide) ?_
  refine lv_iadd hx hb dL_law_957 ?_
  obtain ⟨hi7, hf⟩ := ks_guard hf
  refine va_sld hx hb hX hbl hbA hS (ks_in_vp hi7) dL_law_958 ?_
  refine lv_aload_n hx hb dL_law_959 rfl (lv_at hl 1 rfl) ?_
  refine lv_iload hx hb dL_law_960 (lv_at hl 5 rfl) ?_
  refine lv_iconst (v := 2) hx hb dL_law_962 (by decide) ?_
  refine lv_iadd hx hb dL_law_963 ?_
  obtain ⟨hi8, hf⟩ := ks_guard hf
  refine va_sld hx hb hX hbl hbA hS (ks_in_vp hi8) dL_law_964 ?_
  obtain ⟨⟨r10, s9⟩, hc11, hf⟩ := ks_bind hf
  try dsimp only at hf
  refine ks_calli (va_runV (As := [.int (xs ((i + 1)).toNatClampNeg), .int (xs ((i + 2)).toNatClampNeg)]) (rest := []) ⟨hx, hb, hml, hown, hts⟩ (m_X5_jobs l D cy ad En n0 hG (fun k _ => hE k) o6 hc11) (cwV 2 hts gL_law_X5_jobs rfl rfl rfl (by decide +kernel) ⟨(Nat.le_of_ble_eq_true rfl), (Nat.le_of_ble_eq_true rfl)⟩) ⟨ks_U.blind, ks_recv hK hW (ks_v14 (i := 0) (j := 0) (hE 14)) (ks_c14 cy ad _ 0 0 _) rfl, fun U hU9 hWm => ⟨rfl, ks_at hn0 hK hS hW hWm.alike hU9⟩⟩ rfl rfl hl.1 rfl (lv_room (Nat.le_of_ble_eq_true rfl)) dL_law_965 ⟨show (c9 + 2) + 0 ≤ 607239 by omega, show (z9 + 12) + 0 ≤ 7274386 by omega⟩) hS (fun H locs hW hS => ?_)
  refine lv_istore (lv' := [(6, .int r10), (5, .int r4), (0, .ref b), (1, .ref (ad 0 0 0)), (2, .ref (ad 14 0 0)), (3, .ref (ad 45 0 0)), (4, .int i)]) hx hb dL_law_968 hl (by decide) rfl (fun ls hl => ?_)
  refine lv_aload_n hx hb dL_law_970 rfl (lv_at hl 4 rfl) ?_
  obtain ⟨⟨r13, s12⟩, hc14, hf⟩ := ks_bind hf
  try dsimp only at hf
  refine ks_calli (va_runV (As := []) (rest := []) ⟨hx, hb, hml, hown, hts⟩ (m_X5_thrown l D cy ad En n0 hG (fun k _ => hE k) o6 hc14) (cwV 0 hts gL_law_X5_thrown rfl rfl rfl (by decide +kernel) ⟨(Nat.le_of_ble_eq_true rfl), (Nat.le_of_ble_eq_true rfl)⟩) ⟨ks_U.blind, ks_recv hK hW (ks_v14 (i := 0) (j := 0) (hE 14)) (ks_c14 cy ad _ 0 0 _) rfl, fun U hU9 hWm => ⟨rfl, ks_at hn0 hK hS hW hWm.alike hU9⟩⟩ rfl rfl hl.1 rfl (lv_room (Nat.le_of_ble_eq_true rfl)) dL_law_971 ⟨show (c9 + 2) + 0 ≤ 607239 by omega, show (z9 + 12) + 0 ≤ 7274386 by omega⟩) hS (fun H locs hW hS => ?_)
  refine lv_iload hx hb dL_law_974 (lv_at hl 1 rfl) ?_
  refine lv_icmp_eq (tgt := 981) hx hb dL_law_976 (by decide) (fun c15 => ?_) (fun c15 => ?_)
  · rw [if_pos c15] at hf
    refine lv_iload hx hb dL_law_981 (lv_at hl 1 rfl) ?_
    refine lv_if_ne (tgt := 998) hx hb dL_law_983 (by decide) (fun c16 => ?_) (fun c16 => ?_)
    · rw [if_neg c16] at hf
      refine lv_goto (tgt := 1082) hx hb dL_law_998 (by decide) ?_
      refine lv_iinc (v := (i + 7)) (lv' := [(4, .int (i + 7)), (6, .int r10), (5, .int r4), (0, .ref b), (1, .ref (ad 0 0 0)), (2, .ref (ad 14 0 0)), (3, .ref (ad 45 0 0))]) hx hb dL_law_1082 hl (k := 6) rfl rfl (by decide) rfl (fun ls hl => ?_)
      refine lv_goto (tgt := 23) hx hb dL_law_1085 (by decide) ?_
      exact hk s12 o6 ((i + 7)) hf hW hS (lv_sub hl [3, 4, 5, 6, 0] rfl) (by omega) (by omega)
    · rw [if_pos c16] at hf
      refine lv_aload_n hx hb dL_law_986 rfl (lv_at hl 5 rfl) ?_
      refine lv_iconst (v := 0) hx hb dL_law_987 (by decide) ?_
      refine ks_lald (H0 := s.heap) hx hb hK hW (hE 45) dL_law_988 ?_
      refine lv_iload hx hb dL_law_989 (lv_at hl 0 rfl) ?_
      refine lv_i2l (v := r10.toInt64) hx hb dL_law_991 rfl ?_
      refine W.lcmp hx hb dL_law_992 ?_
      refine lv_if_eq (tgt := 998) hx hb dL_law_993 (by decide) (fun c17 => ?_) (fun c17 => ?_)
      · rw [if_pos c17] at hf
        refine lv_goto (tgt := 1082) hx hb dL_law_998 (by decide) ?_
        refine lv_iinc (v := (i + 7)) (lv' := [(4, .int (i + 7)), (6, .int r10), (5, .int r4), (0, .ref b), (1, .ref (ad 0 0 0)), (2, .ref (ad 14 0 0)), (3, .ref (ad 45 0 0))]) hx hb dL_law_1082 hl (k := 6) rfl rfl (by decide) rfl (fun ls hl => ?_)
        refine lv_goto (tgt := 23) hx hb dL_law_1085 (by decide) ?_
        exact hk s12 o6 ((i + 7)) hf hW hS (lv_sub hl [3, 4, 5, 6, 0] rfl) (by omega) (by omega)
      · rw [if_neg c17] at hf
        refine lv_iconst (v := 0) hx hb dL_law_996 (by decide) ?_
        exact absurd hf (by simp)
  · rw [if_neg c15] at hf
    refine lv_iconst (v := 0) hx hb dL_law_979 (by decide) ?_
    exact absurd hf (by simp)
def f_law_14 (N : Nat) (xs : Nat → Int32) (L : Nat) (k : ks_S → Int64 → Int32 → Option Bool) (σ : ks_S) (o : Int64) (i : Int32) : Option Bool :=
  (if ks_in ((i + 1)) L = true then (if ks_in ((i + 2)) L = true then ((f_L_spun σ o ((xs ((i + 1)).toNatClampNeg)) ((xs ((i + 2)).toNatClampNeg))).bind fun (r4, (s3, o6)) => (if ks_in ((i + 1)) L = true then (if ks_in ((i + 2)) L = true then ((f_X5_spun s3 ((xs ((i + 1)).toNatClampNeg)) ((xs ((i + 2)).toNatClampNeg))).bind fun (r10, s9) => ((f_X5_thrown s9).bind fun (r13, s12) => (if r13 = r4 then (if r4 = 0 then (if ((lg_cmp o6 r10.toInt64)) = 0 then k s12 o6 ((i + 7)) else some false) else k s12 o6 ((i + 7))) else some false))) else none) else none)) else none) else none)
set_option maxHeartbeats 4000000 in
set_option maxRecDepth 100000 in
theorem t_law_14 {p : Program} {l : Launch} {e : Env} {s : State} {m : MethodId} {below : List Frame} {meth : Method} {c : Code} {b L : Nat} {xs : Nat → Int32} {D : va_G} {cy : Nat → ClassId} {ad : ks_A} {En : Nat → Prop} {n0 : Nat → Prop} {N : Nat} {k : ks_S → Int64 → Int32 → Option Bool} (hlt : l.stackTraces = false) (C0 : lw_At p s m meth c b L xs) (hn0 : True) (hbA : ¬ ks_F n0 b) (hK : va_K D vwCl (ks_t cy) s) (hN : ks_N n0 s) (hNC : ks_NC s) (hG : ks_G ad En n0) (hE : ∀ k, En k) {c9 z9 : Nat} (hc9 : c9 + 8 ≤ 607239) (hz9 : z9 + 48 ≤ 7274386) (hk : ∀ (σ : ks_S) (o : Int64) (i : Int32), k σ o i = some true → ∀ {H : Heap} {locs : List Loc} {ls : Array Slot}, ks_W D cy ad En σ o H → va_S (ks_F n0) s.heap H locs → lv_has ls 7 [(0, .ref b), (1, .ref (ad 0 0 0)), (2, .ref (ad 14 0 0)), (3, .ref (ad 45 0 0)), (4, .int i)] → ∀ {c8 z8 : Nat}, c8 ≤ c9 + 8 → z8 ≤ z9 + 48 → W p l e room_1 s m #[Value.ref b] below meth c H locs c8 z8 (lw_Z below #[Value.ref b] s) (F0 m 23 ls [])) {σ : ks_S} {o : Int64} {i : Int32} (hf : f_law_14 N xs L k σ o i = some true) {H : Heap} {locs : List Loc} {ls : Array Slot} (hW : ks_W D cy ad En σ o H) (hS : va_S (ks_F n0) s.heap H locs) (hl : lv_has ls 7 [(0, .ref b), (1, .ref (ad 0 0 0)), (2, .ref (ad 14 0 0)), (3, .ref (ad 45 0 0)), (4, .int i)]) : W p l e room_1 s m #[Value.ref b] below meth c H locs c9 z9 (lw_Z below #[Value.ref b] s) (F0 m 1001 ls []) := by
  obtain ⟨hx, hb, hr, hml, hown, hts0, hX, hbl, hlocks, hgv⟩ := id C0
  have hts : ∀ w ∈ wsL_law, w.before #[Value.ref b] s = true := fun w h => hts0 w (wsL_law_in w h)
  unfold f_law_14 at hf
  refine lv_aload_n hx hb dL_law_1001 rfl (lv_at hl 1 rfl) ?_
  refine lv_aload_n hx hb dL_law_1002 rfl (lv_at hl 0 rfl) ?_
  refine lv_iload hx hb dL_law_1003 (lv_at hl 4 rfl) ?_
  refine lv_iconst (v := 1) hx hb dL_law_1005 (by decide) ?_
  refine lv_iadd hx hb dL_law_1006 ?_
  obtain ⟨hi1, hf⟩ := ks_guard hf
  refine va_sld hx hb hX hbl hbA hS (ks_in_vp hi1) dL_law_1007 ?_
  refine lv_aload_n hx hb dL_law_1008 rfl (lv_at hl 0 rfl) ?_
  refine lv_iload hx hb dL_law_1009 (lv_at hl 4 rfl) ?_
  refine lv_iconst (v := 2) hx hb dL_law_1011 (by decide) ?_
  refine lv_iadd hx hb dL_law_1012 ?_
  obtain ⟨hi2, hf⟩ := ks_guard hf
  refine va_sld hx hb hX hbl hbA hS (ks_in_vp hi2) dL_law_1013 ?_
  refine lv_aload_n hx hb dL_law_1014 rfl (lv_at hl 3 rfl) ?_
  obtain ⟨⟨r4, s3, o6⟩, hc5, hf⟩ := ks_bind hf
  try dsimp only at hf
  refine ks_lcall (vx_runSX (hh := [(0, 10, 13, 13)]) (As := [.ref (ad 0 0 0), .int (xs ((i + 1)).toNatClampNeg), .int (xs ((i + 2)).toNatClampNeg), .ref (ad 45 0 0)]) (rest := []) ⟨hx, hb, hml, hown, hts⟩ (m_L_spun l hlt D cy ad En n0 hG hE o hc5) (vx_cwSW 4 hts gL_law_L_spun rfl rfl rfl (by decide +kernel) ⟨(Nat.le_of_ble_eq_true rfl), (Nat.le_of_ble_eq_true rfl)⟩) ⟨ks_UL.blind, fun U hU9 hWm => ⟨rfl, ks_at hn0 hK hS hW hWm.alike hU9, hN.now hS hWm.alike hU9, hNC.moved hWm.alike⟩⟩ rfl rfl hl.1 rfl (lv_room (Nat.le_of_ble_eq_true rfl)) dL_law_1015 ⟨show c9 + 2 ≤ 607239 by omega, show z9 + 12 ≤ 7274386 by omega⟩) hS (fun H locs hW hS => ?_)
  refine lv_istore (lv' := [(5, .int r4), (0, .ref b), (1, .ref (ad 0 0 0)), (2, .ref (ad 14 0 0)), (3, .ref (ad 45 0 0)), (4, .int i)]) hx hb dL_law_1018 hl (by decide) rfl (fun ls hl => ?_)
  refine lv_aload_n hx hb dL_law_1020 rfl (lv_at hl 3 rfl) ?_
  refine lv_aload_n hx hb dL_law_1021 rfl (lv_at hl 1 rfl) ?_
  refine lv_iload hx hb dL_law_1022 (lv_at hl 5 rfl) ?_
  refine lv_iconst (v := 1) hx hb dL_law_1024 (by decide) ?_
  refine lv_iadd hx hb dL_law_1025 ?_
  obtain ⟨hi7, hf⟩ := ks_guard hf
  refine va_sld hx hb hX hbl hbA hS (ks_in_vp hi7) dL_law_1026 ?_
  refine lv_aload_n hx hb dL_law_1027 rfl (lv_at hl 1 rfl) ?_
  refine lv_iload hx hb dL_law_1028 (lv_at hl 5 rfl) ?_
  refine lv_iconst (v := 2) hx hb dL_law_1030 (by decide) ?_
  refine lv_iadd hx hb dL_law_1031 ?_
  obtain ⟨hi8, hf⟩ := ks_guard hf
  refine va_sld hx hb hX hbl hbA hS (ks_in_vp hi8) dL_law_1032 ?_
  obtain ⟨⟨r10, s9⟩, hc11, hf⟩ := ks_bind hf
  try dsimp only at hf
  refine ks_calli (va_runV (As := [.int (xs ((i + 1)).toNatClampNeg), .int (xs ((i + 2)).toNatClampNeg)]) (rest := []) ⟨hx, hb, hml, hown, hts⟩ (m_X5_spun l D cy ad En n0 hG (fun k _ => hE k) o6 hc11) (cwV 2 hts gL_law_X5_spun rfl rfl rfl (by decide +kernel) ⟨(Nat.le_of_ble_eq_true rfl), (Nat.le_of_ble_eq_true rfl)⟩) ⟨ks_U.blind, ks_recv hK hW (ks_v14 (i := 0) (j := 0) (hE 14)) (ks_c14 cy ad _ 0 0 _) rfl, fun U hU9 hWm => ⟨rfl, ks_at hn0 hK hS hW hWm.alike hU9⟩⟩ rfl rfl hl.1 rfl (lv_room (Nat.le_of_ble_eq_true rfl)) dL_law_1033 ⟨show (c9 + 2) + 0 ≤ 607239 by omega, show (z9 + 12) + 0 ≤ 7274386 by omega⟩) hS (fun H locs hW hS => ?_)
  refine lv_istore (lv' := [(6, .int r10), (5, .int r4), (0, .ref b), (1, .ref (ad 0 0 0)), (2, .ref (ad 14 0 0)), (3, .ref (ad 45 0 0)), (4, .int i)]) hx hb dL_law_1036 hl (by decide) rfl (fun ls hl => ?_)
  refine lv_aload_n hx hb dL_law_1038 rfl (lv_at hl 4 rfl) ?_
  obtain ⟨⟨r13, s12⟩, hc14, hf⟩ := ks_bind hf
  try dsimp only at hf
  refine ks_calli (va_runV (As := []) (rest := []) ⟨hx, hb, hml, hown, hts⟩ (m_X5_thrown l D cy ad En n0 hG (fun k _ => hE k) o6 hc14) (cwV 0 hts gL_law_X5_thrown rfl rfl rfl (by decide +kernel) ⟨(Nat.le_of_ble_eq_true rfl), (Nat.le_of_ble_eq_true rfl)⟩) ⟨ks_U.blind, ks_recv hK hW (ks_v14 (i := 0) (j := 0) (hE 14)) (ks_c14 cy ad _ 0 0 _) rfl, fun U hU9 hWm => ⟨rfl, ks_at hn0 hK hS hW hWm.alike hU9⟩⟩ rfl rfl hl.1 rfl (lv_room (Nat.le_of_ble_eq_true rfl)) dL_law_1039 ⟨show (c9 + 2) + 0 ≤ 607239 by omega, show (z9 + 12) + 0 ≤ 7274386 by omega⟩) hS (fun H locs hW hS => ?_)
  refine lv_iload hx hb dL_law_1042 (lv_at hl 1 rfl) ?_
  refine lv_icmp_eq (tgt := 1049) hx hb dL_law_1044 (by decide) (fun c15 => ?_) (fun c15 => ?_)
  · rw [if_pos c15] at hf
    refine lv_iload hx hb dL_law_1049 (lv_at hl 1 rfl) ?_
    refine lv_if_ne (tgt := 1066) hx hb dL_law_1051 (by decide) (fun c16 => ?_) (fun c16 => ?_)
    · rw [if_neg c16] at hf
      refine lv_goto (tgt := 1082) hx hb dL_law_1066 (by decide) ?_
      refine lv_iinc (v := (i + 7)) (lv' := [(4, .int (i + 7)), (6, .int r10), (5, .int r4), (0, .ref b), (1, .ref (ad 0 0 0)), (2, .ref (ad 14 0 0)), (3, .ref (ad 45 0 0))]) hx hb dL_law_1082 hl (k := 6) rfl rfl (by decide) rfl (fun ls hl => ?_)
      refine lv_goto (tgt := 23) hx hb dL_law_1085 (by decide) ?_
      exact hk s12 o6 ((i + 7)) hf hW hS (lv_sub hl [3, 4, 5, 6, 0] rfl) (by omega) (by omega)
    · rw [if_pos c16] at hf
      refine lv_aload_n hx hb dL_law_1054 rfl (lv_at hl 5 rfl) ?_
      refine lv_iconst (v := 0) hx hb dL_law_1055 (by decide) ?_
      refine ks_lald (H0 := s.heap) hx hb hK hW (hE 45) dL_law_1056 ?_
      refine lv_iload hx hb dL_law_1057 (lv_at hl 0 rfl) ?_
      refine lv_i2l (v := r10.toInt64) hx hb dL_law_1059 rfl ?_
      refine W.lcmp hx hb dL_law_1060 ?_
      refine lv_if_eq (tgt := 1066) hx hb dL_law_1061 (by decide) (fun c17 => ?_) (fun c17 => ?_)
      · rw [if_pos c17] at hf
        refine lv_goto (tgt := 1082) hx hb dL_law_1066 (by decide) ?_
        refine lv_iinc (v := (i + 7)) (lv' := [(4, .int (i + 7)), (6, .int r10), (5, .int r4), (0, .ref b), (1, .ref (ad 0 0 0)), (2, .ref (ad 14 0 0)), (3, .ref (ad 45 0 0))]) hx hb dL_law_1082 hl (k := 6) rfl rfl (by decide) rfl (fun ls hl => ?_)
        refine lv_goto (tgt := 23) hx hb dL_law_1085 (by decide) ?_
        exact hk s12 o6 ((i + 7)) hf hW hS (lv_sub hl [3, 4, 5, 6, 0] rfl) (by omega) (by omega)
      · rw [if_neg c17] at hf
        refine lv_iconst (v := 0) hx hb dL_law_1064 (by decide) ?_
        exact absurd hf (by simp)
  · rw [if_neg c15] at hf
    refine lv_iconst (v := 0) hx hb dL_law_1047 (by decide) ?_
    exact absurd hf (by simp)
def f_law_15 (N : Nat) (xs : Nat → Int32) (L : Nat) (k : ks_S → Int64 → Int32 → Option Bool) (σ : ks_S) (o : Int64) (i : Int32) : Option Bool :=
  ((f_X4_late N σ).bind fun (r2, s1) => ((f_X5_late N s1).bind fun (r5, s4) => (if r2 = r5 then k s4 o ((i + 7)) else some false)))
set_option maxHeartbeats 4000000 in
set_option maxRecDepth 100000 in
theorem t_law_15 {p : Program} {l : Launch} {e : Env} {s : State} {m : MethodId} {below : List Frame} {meth : Method} {c : Code} {b L : Nat} {xs : Nat → Int32} {D : va_G} {cy : Nat → ClassId} {ad : ks_A} {En : Nat → Prop} {n0 : Nat → Prop} {N : Nat} {k : ks_S → Int64 → Int32 → Option Bool} (hlt : l.stackTraces = false) (C0 : lw_At p s m meth c b L xs) (hn0 : True) (hbA : ¬ ks_F n0 b) (hK : va_K D vwCl (ks_t cy) s) (hN : ks_N n0 s) (hNC : ks_NC s) (hG : ks_G ad En n0) (hE : ∀ k, En k) {c9 z9 : Nat} (hc9 : c9 + 8 ≤ 607239) (hz9 : z9 + 48 ≤ 7274386) (hk : ∀ (σ : ks_S) (o : Int64) (i : Int32), k σ o i = some true → ∀ {H : Heap} {locs : List Loc} {ls : Array Slot}, ks_W D cy ad En σ o H → va_S (ks_F n0) s.heap H locs → lv_has ls 7 [(0, .ref b), (1, .ref (ad 0 0 0)), (2, .ref (ad 14 0 0)), (3, .ref (ad 45 0 0)), (4, .int i)] → ∀ {c8 z8 : Nat}, c8 ≤ c9 + 8 → z8 ≤ z9 + 48 → W p l e room_1 s m #[Value.ref b] below meth c H locs c8 z8 (lw_Z below #[Value.ref b] s) (F0 m 23 ls [])) {σ : ks_S} {o : Int64} {i : Int32} (hf : f_law_15 N xs L k σ o i = some true) {H : Heap} {locs : List Loc} {ls : Array Slot} (hW : ks_W D cy ad En σ o H) (hS : va_S (ks_F n0) s.heap H locs) (hl : lv_has ls 7 [(0, .ref b), (1, .ref (ad 0 0 0)), (2, .ref (ad 14 0 0)), (3, .ref (ad 45 0 0)), (4, .int i)]) : W p l e room_1 s m #[Value.ref b] below meth c H locs c9 z9 (lw_Z below #[Value.ref b] s) (F0 m 1069 ls []) := by
  obtain ⟨hx, hb, hr, hml, hown, hts0, hX, hbl, hlocks, hgv⟩ := id C0
  have hts : ∀ w ∈ wsL_law, w.before #[Value.ref b] s = true := fun w h => hts0 w (wsL_law_in w h)
  unfold f_law_15 at hf
  refine lv_aload_n hx hb dL_law_1069 rfl (lv_at hl 1 rfl) ?_
  obtain ⟨⟨r2, s1⟩, hc3, hf⟩ := ks_bind hf
  try dsimp only at hf
  refine ks_calli (va_runV (As := []) (rest := []) ⟨hx, hb, hml, hown, hts⟩ (m_X4_late l D cy ad En n0 hG (fun k _ => hE k) o hc3) (cwV 0 hts gL_law_X4_late rfl rfl rfl (by decide +kernel) ⟨(Nat.le_of_ble_eq_true rfl), (Nat.le_of_ble_eq_true rfl)⟩) ⟨ks_U.blind, ks_recv hK hW (ks_v0 (i := 0) (j := 0) (hE 0)) (ks_c0 cy ad _ 0 0 _) rfl, fun U hU9 hWm => ⟨rfl, ks_at hn0 hK hS hW hWm.alike hU9⟩⟩ rfl rfl hl.1 rfl (lv_room (Nat.le_of_ble_eq_true rfl)) dL_law_1070 ⟨show c9 + 0 ≤ 607239 by omega, show z9 + 0 ≤ 7274386 by omega⟩) hS (fun H locs hW hS => ?_)
  refine lv_aload_n hx hb dL_law_1073 rfl (lv_at hl 2 rfl) ?_
  obtain ⟨⟨r5, s4⟩, hc6, hf⟩ := ks_bind hf
  try dsimp only at hf
  refine ks_calli (va_runV (As := []) (rest := [.int r2]) ⟨hx, hb, hml, hown, hts⟩ (m_X5_late l D cy ad En n0 hG (fun k _ => hE k) o hc6) (cwV 0 hts gL_law_X5_late rfl rfl rfl (by decide +kernel) ⟨(Nat.le_of_ble_eq_true rfl), (Nat.le_of_ble_eq_true rfl)⟩) ⟨ks_U.blind, ks_recv hK hW (ks_v14 (i := 0) (j := 0) (hE 14)) (ks_c14 cy ad _ 0 0 _) rfl, fun U hU9 hWm => ⟨rfl, ks_at hn0 hK hS hW hWm.alike hU9⟩⟩ rfl rfl hl.1 rfl (lv_room (Nat.le_of_ble_eq_true rfl)) dL_law_1074 ⟨show c9 + 0 ≤ 607239 by omega, show z9 + 0 ≤ 7274386 by omega⟩) hS (fun H locs hW hS => ?_)
  refine lv_icmp_eq (tgt := 1082) hx hb dL_law_1077 (by decide) (fun c7 => ?_) (fun c7 => ?_)
  · rw [if_pos c7] at hf
    refine lv_iinc (v := (i + 7)) (lv' := [(4, .int (i + 7)), (0, .ref b), (1, .ref (ad 0 0 0)), (2, .ref (ad 14 0 0)), (3, .ref (ad 45 0 0))]) hx hb dL_law_1082 hl (k := 4) rfl rfl (by decide) rfl (fun ls hl => ?_)
    refine lv_goto (tgt := 23) hx hb dL_law_1085 (by decide) ?_
    exact hk s4 o ((i + 7)) hf hW hS (lv_sub hl [1, 2, 3, 4, 0] rfl) (by omega) (by omega)
  · rw [if_neg c7] at hf
    refine lv_iconst (v := 0) hx hb dL_law_1080 (by decide) ?_
    exact absurd hf (by simp)
def f_law_step (N : Nat) (xs : Nat → Int32) (L : Nat) (k : ks_S → Int64 → Int32 → Option Bool) (σ : ks_S) (o : Int64) (i : Int32) : Option Bool :=
  (if ks_in i L = true then (if xs i.toNatClampNeg &&& 15 = 0 then f_law_0 N xs L k σ o i else (if xs i.toNatClampNeg &&& 15 = 1 then f_law_1 N xs L k σ o i else (if xs i.toNatClampNeg &&& 15 = 2 then f_law_2 N xs L k σ o i else (if xs i.toNatClampNeg &&& 15 = 3 then f_law_3 N xs L k σ o i else (if xs i.toNatClampNeg &&& 15 = 4 then f_law_4 N xs L k σ o i else (if xs i.toNatClampNeg &&& 15 = 5 then f_law_5 N xs L k σ o i else (if xs i.toNatClampNeg &&& 15 = 6 then f_law_6 N xs L k σ o i else (if xs i.toNatClampNeg &&& 15 = 7 then f_law_7 N xs L k σ o i else (if xs i.toNatClampNeg &&& 15 = 8 then f_law_8 N xs L k σ o i else (if xs i.toNatClampNeg &&& 15 = 9 then f_law_9 N xs L k σ o i else (if xs i.toNatClampNeg &&& 15 = 10 then f_law_10 N xs L k σ o i else (if xs i.toNatClampNeg &&& 15 = 11 then f_law_11 N xs L k σ o i else (if xs i.toNatClampNeg &&& 15 = 12 then f_law_12 N xs L k σ o i else (if xs i.toNatClampNeg &&& 15 = 13 then f_law_13 N xs L k σ o i else (if xs i.toNatClampNeg &&& 15 = 14 then f_law_14 N xs L k σ o i else (if xs i.toNatClampNeg &&& 15 = 15 then f_law_15 N xs L k σ o i else none)))))))))))))))) else none)
def f_law (N : Nat) (xs : Nat → Int32) (L : Nat) : Nat → ks_S → Int64 → Int32 → Option Bool
  | 0, _, _, _ => none
  | n + 1, σ, o, i => if (Int32.ofNat L - 7) < i then some true else f_law_step N xs L (f_law N xs L n) σ o i
set_option maxHeartbeats 4000000 in
set_option maxRecDepth 100000 in
theorem t_law_step {p : Program} {l : Launch} {e : Env} {s : State} {m : MethodId} {below : List Frame} {meth : Method} {c : Code} {b L : Nat} {xs : Nat → Int32} {D : va_G} {cy : Nat → ClassId} {ad : ks_A} {En : Nat → Prop} {n0 : Nat → Prop} {N : Nat} {k : ks_S → Int64 → Int32 → Option Bool} (hlt : l.stackTraces = false) (C0 : lw_At p s m meth c b L xs) (hn0 : True) (hbA : ¬ ks_F n0 b) (hK : va_K D vwCl (ks_t cy) s) (hN : ks_N n0 s) (hNC : ks_NC s) (hG : ks_G ad En n0) (hE : ∀ k, En k) {c9 z9 : Nat} (hc9 : c9 + 8 ≤ 607239) (hz9 : z9 + 48 ≤ 7274386) (hk : ∀ (σ : ks_S) (o : Int64) (i : Int32), k σ o i = some true → ∀ {H : Heap} {locs : List Loc} {ls : Array Slot}, ks_W D cy ad En σ o H → va_S (ks_F n0) s.heap H locs → lv_has ls 7 [(0, .ref b), (1, .ref (ad 0 0 0)), (2, .ref (ad 14 0 0)), (3, .ref (ad 45 0 0)), (4, .int i)] → ∀ {c8 z8 : Nat}, c8 ≤ c9 + 8 → z8 ≤ z9 + 48 → W p l e room_1 s m #[Value.ref b] below meth c H locs c8 z8 (lw_Z below #[Value.ref b] s) (F0 m 23 ls [])) {σ : ks_S} {o : Int64} {i : Int32} (hf : f_law_step N xs L k σ o i = some true) {H : Heap} {locs : List Loc} {ls : Array Slot} (hW : ks_W D cy ad En σ o H) (hS : va_S (ks_F n0) s.heap H locs) (hl : lv_has ls 7 [(0, .ref b), (1, .ref (ad 0 0 0)), (2, .ref (ad 14 0 0)), (3, .ref (ad 45 0 0)), (4, .int i)]) : W p l e room_1 s m #[Value.ref b] below meth c H locs c9 z9 (lw_Z below #[Value.ref b] s) (F0 m 33 ls []) := by
  obtain ⟨hx, hb, hr, hml, hown, hts0, hX, hbl, hlocks, hgv⟩ := id C0
  unfold f_law_step at hf
  refine lv_aload_n hx hb dL_law_33 rfl (lv_at hl 0 rfl) ?_
  refine lv_iload hx hb dL_law_34 (lv_at hl 4 rfl) ?_
  obtain ⟨hi0, hf⟩ := ks_guard hf
  refine va_sld hx hb hX hbl hbA hS (ks_in_vp hi0) dL_law_36 ?_
  refine lv_bipush (v := 15) hx hb dL_law_37 (by decide) ?_
  refine lv_iand hx hb dL_law_39 ?_
  by_cases c0 : xs i.toNatClampNeg &&& 15 = 0
  · rw [if_pos c0] at hf
    refine lv_tableIn (off := 80) (tgt := 120) hx hb dL_law_40 (by rw [c0]; decide) (by rw [c0]; decide) (by rw [c0]; decide) (by decide) ?_
    exact t_law_0 hlt C0 hn0 hbA hK hN hNC hG hE hc9 hz9 hk hf hW hS hl
  rw [if_neg c0] at hf
  by_cases c1 : xs i.toNatClampNeg &&& 15 = 1
  · rw [if_pos c1] at hf
    refine lv_tableIn (off := 178) (tgt := 218) hx hb dL_law_40 (by rw [c1]; decide) (by rw [c1]; decide) (by rw [c1]; decide) (by decide) ?_
    exact t_law_1 hlt C0 hn0 hbA hK hN hNC hG hE hc9 hz9 hk hf hW hS hl
  rw [if_neg c1] at hf
  by_cases c2 : xs i.toNatClampNeg &&& 15 = 2
  · rw [if_pos c2] at hf
    refine lv_tableIn (off := 282) (tgt := 322) hx hb dL_law_40 (by rw [c2]; decide) (by rw [c2]; decide) (by rw [c2]; decide) (by decide) ?_
    exact t_law_2 hlt C0 hn0 hbA hK hN hNC hG hE hc9 hz9 hk hf hW hS hl
  rw [if_neg c2] at hf
  by_cases c3 : xs i.toNatClampNeg &&& 15 = 3
  · rw [if_pos c3] at hf
    refine lv_tableIn (off := 318) (tgt := 358) hx hb dL_law_40 (by rw [c3]; decide) (by rw [c3]; decide) (by rw [c3]; decide) (by decide) ?_
    exact t_law_3 hlt C0 hn0 hbA hK hN hNC hG hE hc9 hz9 hk hf hW hS hl
  rw [if_neg c3] at hf
  by_cases c4 : xs i.toNatClampNeg &&& 15 = 4
  · rw [if_pos c4] at hf
    refine lv_tableIn (off := 374) (tgt := 414) hx hb dL_law_40 (by rw [c4]; decide) (by rw [c4]; decide) (by rw [c4]; decide) (by decide) ?_
    exact t_law_4 hlt C0 hn0 hbA hK hN hNC hG hE hc9 hz9 hk hf hW hS hl
  rw [if_neg c4] at hf
  by_cases c5 : xs i.toNatClampNeg &&& 15 = 5
  · rw [if_pos c5] at hf
    refine lv_tableIn (off := 442) (tgt := 482) hx hb dL_law_40 (by rw [c5]; decide) (by rw [c5]; decide) (by rw [c5]; decide) (by decide) ?_
    exact t_law_5 hlt C0 hn0 hbA hK hN hNC hG hE hc9 hz9 hk hf hW hS hl
  rw [if_neg c5] at hf
  by_cases c6 : xs i.toNatClampNeg &&& 15 = 6
  · rw [if_pos c6] at hf
    refine lv_tableIn (off := 510) (tgt := 550) hx hb dL_law_40 (by rw [c6]; decide) (by rw [c6]; decide) (by rw [c6]; decide) (by decide) ?_
    exact t_law_6 hlt C0 hn0 hbA hK hN hNC hG hE hc9 hz9 hk hf hW hS hl
  rw [if_neg c6] at hf
  by_cases c7 : xs i.toNatClampNeg &&& 15 = 7
  · rw [if_pos c7] at hf
    refine lv_tableIn (off := 554) (tgt := 594) hx hb dL_law_40 (by rw [c7]; decide) (by rw [c7]; decide) (by rw [c7]; decide) (by decide) ?_
    exact t_law_7 hlt C0 hn0 hbA hK hN hNC hG hE hc9 hz9 hk hf hW hS hl
  rw [if_neg c7] at hf
  by_cases c8 : xs i.toNatClampNeg &&& 15 = 8
  · rw [if_pos c8] at hf
    refine lv_tableIn (off := 578) (tgt := 618) hx hb dL_law_40 (by rw [c8]; decide) (by rw [c8]; decide) (by rw [c8]; decide) (by decide) ?_
    exact t_law_8 hlt C0 hn0 hbA hK hN hNC hG hE hc9 hz9 hk hf hW hS hl
  rw [if_neg c8] at hf
  by_cases c9 : xs i.toNatClampNeg &&& 15 = 9
  · rw [if_pos c9] at hf
    refine lv_tableIn (off := 641) (tgt := 681) hx hb dL_law_40 (by rw [c9]; decide) (by rw [c9]; decide) (by rw [c9]; decide) (by decide) ?_
    exact t_law_9 hlt C0 hn0 hbA hK hN hNC hG hE hc9 hz9 hk hf hW hS hl
  rw [if_neg c9] at hf
  by_cases c10 : xs i.toNatClampNeg &&& 15 = 10
  · rw [if_pos c10] at hf
    refine lv_tableIn (off := 701) (tgt := 741) hx hb dL_law_40 (by rw [c10]; decide) (by rw [c10]; decide) (by rw [c10]; decide) (by decide) ?_
    exact t_law_10 hlt C0 hn0 hbA hK hN hNC hG hE hc9 hz9 hk hf hW hS hl
  rw [if_neg c10] at hf
  by_cases c11 : xs i.toNatClampNeg &&& 15 = 11
  · rw [if_pos c11] at hf
    refine lv_tableIn (off := 757) (tgt := 797) hx hb dL_law_40 (by rw [c11]; decide) (by rw [c11]; decide) (by rw [c11]; decide) (by decide) ?_
    exact t_law_11 hlt C0 hn0 hbA hK hN hNC hG hE hc9 hz9 hk hf hW hS hl
  rw [if_neg c11] at hf
  by_cases c12 : xs i.toNatClampNeg &&& 15 = 12
  · rw [if_pos c12] at hf
    refine lv_tableIn (off := 825) (tgt := 865) hx hb dL_law_40 (by rw [c12]; decide) (by rw [c12]; decide) (by rw [c12]; decide) (by decide) ?_
    exact t_law_12 hlt C0 hn0 hbA hK hN hNC hG hE hc9 hz9 hk hf hW hS hl
  rw [if_neg c12] at hf
  by_cases c13 : xs i.toNatClampNeg &&& 15 = 13
  · rw [if_pos c13] at hf
    refine lv_tableIn (off := 893) (tgt := 933) hx hb dL_law_40 (by rw [c13]; decide) (by rw [c13]; decide) (by rw [c13]; decide) (by decide) ?_
    exact t_law_13 hlt C0 hn0 hbA hK hN hNC hG hE hc9 hz9 hk hf hW hS hl
  rw [if_neg c13] at hf
  by_cases c14 : xs i.toNatClampNeg &&& 15 = 14
  · rw [if_pos c14] at hf
    refine lv_tableIn (off := 961) (tgt := 1001) hx hb dL_law_40 (by rw [c14]; decide) (by rw [c14]; decide) (by rw [c14]; decide) (by decide) ?_
    exact t_law_14 hlt C0 hn0 hbA hK hN hNC hG hE hc9 hz9 hk hf hW hS hl
  rw [if_neg c14] at hf
  by_cases c15 : xs i.toNatClampNeg &&& 15 = 15
  · rw [if_pos c15] at hf
    refine lv_tableIn (off := 1029) (tgt := 1069) hx hb dL_law_40 (by rw [c15]; decide) (by rw [c15]; decide) (by rw [c15]; decide) (by decide) ?_
    exact t_law_15 hlt C0 hn0 hbA hK hN hNC hG hE hc9 hz9 hk hf hW hS hl
  rw [if_neg c15] at hf
  exact absurd hf (by simp)
set_option maxHeartbeats 4000000 in
set_option maxRecDepth 100000 in
theorem t_law_23 {p : Program} {l : Launch} {e : Env} {s : State} {m : MethodId} {below : List Frame} {meth : Method} {c : Code} {b L : Nat} {xs : Nat → Int32} {D : va_G} {cy : Nat → ClassId} {ad : ks_A} {En : Nat → Prop} {n0 : Nat → Prop} {N : Nat} (hlt : l.stackTraces = false) (C0 : lw_At p s m meth c b L xs) (hn0 : True) (hbA : ¬ ks_F n0 b) (hK : va_K D vwCl (ks_t cy) s) (hN : ks_N n0 s) (hNC : ks_NC s) (hG : ks_G ad En n0) (hE : ∀ k, En k) (hz0 : ∀ q, n0 q → s.heap.size ≤ q) : ∀ (n : Nat) (σ : ks_S) (o : Int64) (i : Int32), f_law N xs L n σ o i = some true → ∀ {H : Heap} {locs : List Loc} {ls : Array Slot}, ks_W D cy ad En σ o H → va_S (ks_F n0) s.heap H locs → lv_has ls 7 [(0, .ref b), (1, .ref (ad 0 0 0)), (2, .ref (ad 14 0 0)), (3, .ref (ad 45 0 0)), (4, .int i)] → ∀ {c9 z9 : Nat}, c9 + 8 * n ≤ 607239 → z9 + 48 * n ≤ 7274386 → W p l e room_1 s m #[Value.ref b] below meth c H locs c9 z9 (lw_Z below #[Value.ref b] s) (F0 m 23 ls []) := by
  obtain ⟨hx, hb, hr, hml, hown, hts0, hX, hbl, hlocks, hgv⟩ := id C0
  intro n
  induction n with
  | zero => intro σ o i hf; exact absurd hf (by simp [f_law])
  | succ n ih =>
    intro σ o i hf H locs ls hW hS hl c9 z9 hc9 hz9
    rw [f_law] at hf
    refine lv_iload hx hb dL_law_23 (lv_at hl 4 rfl) ?_
    refine lv_aload_n hx hb dL_law_25 rfl (lv_at hl 0 rfl) ?_
    refine va_slen hx hb hX hbl hbA hS dL_law_26 ?_
    refine lv_bipush (v := 7) hx hb dL_law_27 (by decide) ?_
    refine lv_isub hx hb dL_law_29 ?_
    refine lv_icmp_gt (tgt := 1088) hx hb dL_law_30 (by decide) (fun c0 => ?_) (fun c0 => ?_)
    · refine lv_iconst (v := 1) hx hb dL_law_1088 (by decide) ?_
      refine va_forget (fun q hq => hz0 _ (hS.2.2 q hq)) ?_
      refine W.widen (k := 607239) (n := 7274386) (by omega) (by omega) ?_
      exact lw_ret hx hb hr hlocks dL_law_1089
    · rw [if_neg c0] at hf
      exact t_law_step hlt C0 hn0 hbA hK hN hNC hG hE (c9 := c9) (z9 := z9) (by omega) (by omega) (fun σ' o' i' hf' H' locs' ls' hW' hS' hl' c8 z8 h8 h8' => ih σ' o' i' hf' hW' hS' hl' (by omega) (by omega)) hf hW hS hl
